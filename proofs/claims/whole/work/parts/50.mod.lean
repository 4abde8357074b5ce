/-! THE MODEL: its layout, its small methods -/
def isMod (S : SS) : Prop := S.1[508]? = some (9, 50) ∧ (S.2.1 508 0 = some 509 ∧ S.1[509]? = some (20, 265)) ∧ (S.2.1 508 1 = some 510 ∧ S.1[510]? = some (20, 265)) ∧ (S.2.1 508 2 = some 511 ∧ S.1[511]? = some (20, 2120)) ∧ (S.2.1 508 4 = some 512 ∧ S.1[512]? = some (20, 265)) ∧ (S.2.1 508 7 = some 513 ∧ S.1[513]? = some (20, 60)) ∧ (S.2.1 508 12 = some 514 ∧ S.1[514]? = some (20, 8)) ∧ (S.2.1 508 16 = some 515 ∧ S.1[515]? = some (20, 192)) ∧ (S.2.1 508 17 = some 516 ∧ S.1[516]? = some (20, 24)) ∧ (S.2.1 508 18 = some 517 ∧ S.1[517]? = some (20, 24)) ∧ (S.2.1 508 19 = some 518 ∧ S.1[518]? = some (20, 24)) ∧ (S.2.1 508 20 = some 519 ∧ S.1[519]? = some (20, 24)) ∧ (S.2.1 508 21 = some 520 ∧ S.1[520]? = some (20, 24)) ∧ (S.2.1 508 22 = some 521 ∧ S.1[521]? = some (20, 24)) ∧ (S.2.1 508 23 = some 522 ∧ S.1[522]? = some (20, 24)) ∧ (S.2.1 508 24 = some 523 ∧ S.1[523]? = some (20, 600)) ∧ (S.2.1 508 25 = some 524 ∧ S.1[524]? = some (20, 600)) ∧ (S.2.1 508 26 = some 525 ∧ S.1[525]? = some (20, 8)) ∧ (S.2.1 508 27 = some 526 ∧ S.1[526]? = some (20, 8)) ∧ (S.2.1 508 28 = some 527 ∧ S.1[527]? = some (20, 8)) ∧ (S.2.1 508 29 = some 528 ∧ S.1[528]? = some (20, 8)) ∧ (S.2.1 508 30 = some 529 ∧ S.1[529]? = some (20, 8)) ∧ (S.2.1 508 31 = some 530 ∧ S.1[530]? = some (20, 8)) ∧ (S.2.1 508 33 = some 531 ∧ S.1[531]? = some (20, 8)) ∧ (S.2.1 508 34 = some 532 ∧ S.1[532]? = some (21, 8)) ∧ (S.2.1 508 35 = some 533 ∧ S.1[533]? = some (20, 25)) ∧ (S.2.1 508 36 = some 534 ∧ S.1[534]? = some (20, 25)) ∧ (S.2.1 508 37 = some 535 ∧ S.1[535]? = some (20, 25)) ∧ (S.2.1 508 38 = some 536 ∧ S.1[536]? = some (20, 25)) ∧ (S.2.1 508 46 = some 537 ∧ S.1[537]? = some (20, 192)) ∧ (S.2.1 508 47 = some 538 ∧ S.1[538]? = some (20, 8)) ∧ (S.2.1 508 48 = some 539 ∧ S.1[539]? = some (20, 8)) ∧ (S.2.1 508 49 = some 540 ∧ S.1[540]? = some (20, 211))
def mSz (I : II) (p : Nat) : Int := I 509 (15 + 10 * p)
def mLn (I : II) (p : Nat) : Int := I 509 (16 + 10 * p)
def mRk (I : II) (p k : Nat) : Int := I 509 (17 + 10 * p + k)
/-- the model's election is well formed -/
def WfM (I : II) : Prop := (2 ≤ I 509 0 ∧ I 509 0 ≤ 8) ∧ (0 ≤ I 509 1 ∧ I 509 1 ≤ 25) ∧ (0 ≤ I 509 2 ∧ I 509 2 < 256) ∧ (∀ p, p < 25 → 0 ≤ mSz I p ∧ mSz I p ≤ 99) ∧ (∀ p, p < 25 → 0 ≤ mLn I p ∧ mLn I p ≤ 8) ∧ (∀ p k, p < 25 → k < 8 → 0 ≤ mRk I p k ∧ mRk I p k < 8) ∧ (∀ k, k < 8 → 0 ≤ I 509 (7 + k) ∧ I 509 (7 + k) < 8) ∧ (0 ≤ I 509 3 ∧ I 509 3 ≤ 3) ∧ (0 ≤ I 509 4 ∧ I 509 4 ≤ 1) ∧ (0 ≤ I 509 5 ∧ I 509 5 ≤ 1) ∧ 1 ≤ I 509 6 ∧ I 509 6 ≤ 7
def inF (z a b : Int) : Int := if a ≤ z ∧ z ≤ b then 1 else 0
theorem inF_01 (z a b : Int) : inF z a b = 0 ∨ inF z a b = 1 := by unfold inF; split <;> omega
theorem inF_1 {z a b : Int} : ¬ inF z a b = 0 ↔ a ≤ z ∧ z ≤ b := by unfold inF; split <;> omega
theorem inF_0 {z a b : Int} : inF z a b = 0 ↔ ¬ (a ≤ z ∧ z ≤ b) := by unfold inF; split <;> omega

set_option maxRecDepth 100000 in
set_option maxHeartbeats 4000000 in
theorem k_in {l : Launch} {g : GV} {S : SS} {I : II} {X : XX} {z a b : Int} (hfl : l.stackTraces = false) (hz : -2147483648 ≤ z ∧ z < 2147483648) (ha : -2147483648 ≤ a ∧ a < 2147483648) (hb : -2147483648 ≤ b ∧ b < 2147483648) : CE l g mX9_in 0 [.int (ii z), .int (ii a), .int (ii b)] S I X (some (.int (ii (inF z a b)))) I := by
  refine v_startE hfl rfl (by decide) (Nat.le_of_ble_eq_true rfl) (ls := [some (.int (ii z)), some (.int (ii a)), some (.int (ii b))]) rfl ?_
  refine v_iload_n dX9_in_0 rfl ?_
  refine v_iload_n dX9_in_1 rfl ?_
  refine v_ic_lt (tgt := 14) dX9_in_2 (by decide) (fun h2 => ?_) (fun h2 => ?_)
  · refine v_iconst dX9_in_14 ?_
    exact v_zE dX9_in_15 rfl (by first | exact Or.inl rfl | exact Or.inr rfl | omega) (by unfold inF; (repeat (first | rw [if_pos (by omega)] | rw [if_neg (by omega)])); first | done | rfl) (rfl)
  · refine v_iload_n dX9_in_5 rfl ?_
    refine v_iload_n dX9_in_6 rfl ?_
    refine v_ic_gt (tgt := 14) dX9_in_7 (by decide) (fun h7 => ?_) (fun h7 => ?_)
    · refine v_iconst dX9_in_14 ?_
      exact v_zE dX9_in_15 rfl (by first | exact Or.inl rfl | exact Or.inr rfl | omega) (by unfold inF; (repeat (first | rw [if_pos (by omega)] | rw [if_neg (by omega)])); first | done | rfl) (rfl)
    · refine v_iconst dX9_in_10 ?_
      refine v_goto (tgt := 15) dX9_in_11 (by decide) ?_
      exact v_zE dX9_in_15 rfl (by first | exact Or.inl rfl | exact Or.inr rfl | omega) (by unfold inF; (repeat (first | rw [if_pos (by omega)] | rw [if_neg (by omega)])); first | done | rfl) (rfl)

set_option maxRecDepth 100000 in
set_option maxHeartbeats 4000000 in
theorem k_isCand {l : Launch} {g : GV} {S : SS} {I : II} {X : XX} {z : Int} (hfl : l.stackTraces = false) (hM : isMod S) (hW : WfM I) (hz : -2147483648 ≤ z ∧ z < 2147483648) : CE l g mX9_isCandidate 1 [.ref 508, .int (ii z)] S I X (some (.int (ii (inF z 0 (I 509 0 - 1))))) I := by
  obtain ⟨m0, ⟨p509, q509⟩, ⟨p510, q510⟩, ⟨p511, q511⟩, ⟨p512, q512⟩, ⟨p513, q513⟩, ⟨p514, q514⟩, ⟨p515, q515⟩, ⟨p516, q516⟩, ⟨p517, q517⟩, ⟨p518, q518⟩, ⟨p519, q519⟩, ⟨p520, q520⟩, ⟨p521, q521⟩, ⟨p522, q522⟩, ⟨p523, q523⟩, ⟨p524, q524⟩, ⟨p525, q525⟩, ⟨p526, q526⟩, ⟨p527, q527⟩, ⟨p528, q528⟩, ⟨p529, q529⟩, ⟨p530, q530⟩, ⟨p531, q531⟩, ⟨p532, q532⟩, ⟨p533, q533⟩, ⟨p534, q534⟩, ⟨p535, q535⟩, ⟨p536, q536⟩, ⟨p537, q537⟩, ⟨p538, q538⟩, ⟨p539, q539⟩, ⟨p540, q540⟩⟩ := id hM
  obtain ⟨w0, w1, w2, w3, w4, w5, w6, w7, w8, w9, w10⟩ := id hW
  refine v_startE hfl rfl (by decide) (Nat.le_of_ble_eq_true rfl) (ls := [some (.ref 508), some (.int (ii z))]) rfl ?_
  refine v_iload_n dX9_isCandidate_0 rfl ?_
  refine v_iconst dX9_isCandidate_1 ?_
  refine v_aload_n dX9_isCandidate_2 rfl ?_
  refine v_getr dX9_isCandidate_3 fr_X9_9 (by assumption) (by decide) rfl (by assumption) ?_
  refine v_iconst dX9_isCandidate_6 ?_
  refine v_iald (j := 0) dX9_isCandidate_7 (by assumption) (by first | rfl | omega) (by omega) ?_
  refine v_iconst dX9_isCandidate_8 ?_
  refine v_isub dX9_isCandidate_9 ?_
  refine v_cS3 dX9_isCandidate_10 lk_X9_118 (k_in hfl hz (by omega) (by omega)) (by decide) (Nat.le_of_ble_eq_true rfl) ?_ rfl
  have h01 := inF_01 z 0 (I 509 0 - 1)
  exact v_zE dX9_isCandidate_13 rfl (by first | exact Or.inl rfl | exact Or.inr rfl | omega) (rfl) (rfl)

set_option maxRecDepth 100000 in
set_option maxHeartbeats 4000000 in
theorem k_isPile {l : Launch} {g : GV} {S : SS} {I : II} {X : XX} {z : Int} (hfl : l.stackTraces = false) (hM : isMod S) (hW : WfM I) (hz : -2147483648 ≤ z ∧ z < 2147483648) : CE l g mX9_isPile 1 [.ref 508, .int (ii z)] S I X (some (.int (ii (inF z 0 (I 509 1 - 1))))) I := by
  obtain ⟨m0, ⟨p509, q509⟩, ⟨p510, q510⟩, ⟨p511, q511⟩, ⟨p512, q512⟩, ⟨p513, q513⟩, ⟨p514, q514⟩, ⟨p515, q515⟩, ⟨p516, q516⟩, ⟨p517, q517⟩, ⟨p518, q518⟩, ⟨p519, q519⟩, ⟨p520, q520⟩, ⟨p521, q521⟩, ⟨p522, q522⟩, ⟨p523, q523⟩, ⟨p524, q524⟩, ⟨p525, q525⟩, ⟨p526, q526⟩, ⟨p527, q527⟩, ⟨p528, q528⟩, ⟨p529, q529⟩, ⟨p530, q530⟩, ⟨p531, q531⟩, ⟨p532, q532⟩, ⟨p533, q533⟩, ⟨p534, q534⟩, ⟨p535, q535⟩, ⟨p536, q536⟩, ⟨p537, q537⟩, ⟨p538, q538⟩, ⟨p539, q539⟩, ⟨p540, q540⟩⟩ := id hM
  obtain ⟨w0, w1, w2, w3, w4, w5, w6, w7, w8, w9, w10⟩ := id hW
  refine v_startE hfl rfl (by decide) (Nat.le_of_ble_eq_true rfl) (ls := [some (.ref 508), some (.int (ii z))]) rfl ?_
  refine v_iload_n dX9_isPile_0 rfl ?_
  refine v_iconst dX9_isPile_1 ?_
  refine v_aload_n dX9_isPile_2 rfl ?_
  refine v_getr dX9_isPile_3 fr_X9_9 (by assumption) (by decide) rfl (by assumption) ?_
  refine v_iconst dX9_isPile_6 ?_
  refine v_iald (j := 1) dX9_isPile_7 (by assumption) (by first | rfl | omega) (by omega) ?_
  refine v_iconst dX9_isPile_8 ?_
  refine v_isub dX9_isPile_9 ?_
  refine v_cS3 dX9_isPile_10 lk_X9_118 (k_in hfl hz (by omega) (by omega)) (by decide) (Nat.le_of_ble_eq_true rfl) ?_ rfl
  have h01 := inF_01 z 0 (I 509 1 - 1)
  exact v_zE dX9_isPile_13 rfl (by first | exact Or.inl rfl | exact Or.inr rfl | omega) (rfl) (rfl)

set_option maxRecDepth 100000 in
set_option maxHeartbeats 4000000 in
theorem k_pileAt {l : Launch} {g : GV} {S : SS} {I : II} {X : XX} {p w : Int} (hfl : l.stackTraces = false) : CE l g mX9_pileAt 0 [.int (ii p), .int (ii w)] S I X (some (.int (ii (15 + 10 * p + w)))) I := by
  refine v_startE hfl rfl (by decide) (Nat.le_of_ble_eq_true rfl) (ls := [some (.int (ii p)), some (.int (ii w))]) rfl ?_
  refine v_bipush dX9_pileAt_0 (by decide) ?_
  refine v_bipush dX9_pileAt_2 (by decide) ?_
  refine v_iload_n dX9_pileAt_4 rfl ?_
  refine v_imul dX9_pileAt_5 ?_
  refine v_iadd dX9_pileAt_6 ?_
  refine v_iload_n dX9_pileAt_7 rfl ?_
  refine v_iadd dX9_pileAt_8 ?_
  exact v_iE dX9_pileAt_9 rfl (rfl) (rfl)

set_option maxRecDepth 100000 in
set_option maxHeartbeats 4000000 in
theorem k_sizeOf {l : Launch} {g : GV} {S : SS} {I : II} {X : XX} {p : Nat} (hfl : l.stackTraces = false) (hM : isMod S) (hp : p < 25) : CE l g mX9_sizeOf 1 [.ref 508, .int (ii (p : Int))] S I X (some (.int (ii (mSz I p)))) I := by
  obtain ⟨m0, ⟨p509, q509⟩, ⟨p510, q510⟩, ⟨p511, q511⟩, ⟨p512, q512⟩, ⟨p513, q513⟩, ⟨p514, q514⟩, ⟨p515, q515⟩, ⟨p516, q516⟩, ⟨p517, q517⟩, ⟨p518, q518⟩, ⟨p519, q519⟩, ⟨p520, q520⟩, ⟨p521, q521⟩, ⟨p522, q522⟩, ⟨p523, q523⟩, ⟨p524, q524⟩, ⟨p525, q525⟩, ⟨p526, q526⟩, ⟨p527, q527⟩, ⟨p528, q528⟩, ⟨p529, q529⟩, ⟨p530, q530⟩, ⟨p531, q531⟩, ⟨p532, q532⟩, ⟨p533, q533⟩, ⟨p534, q534⟩, ⟨p535, q535⟩, ⟨p536, q536⟩, ⟨p537, q537⟩, ⟨p538, q538⟩, ⟨p539, q539⟩, ⟨p540, q540⟩⟩ := id hM
  refine v_startE hfl rfl (by decide) (Nat.le_of_ble_eq_true rfl) (ls := [some (.ref 508), some (.int (ii (p : Int)))]) rfl ?_
  refine v_aload_n dX9_sizeOf_0 rfl ?_
  refine v_getr dX9_sizeOf_1 fr_X9_9 (by assumption) (by decide) rfl (by assumption) ?_
  refine v_iload_n dX9_sizeOf_4 rfl ?_
  refine v_iconst dX9_sizeOf_5 ?_
  refine v_cS2 dX9_sizeOf_6 lk_X9_122 (k_pileAt hfl) (by decide) (Nat.le_of_ble_eq_true rfl) ?_ rfl
  refine v_iald (j := 15 + 10 * p) dX9_sizeOf_9 (by assumption) (by first | rfl | omega) (by omega) ?_
  exact v_iE dX9_sizeOf_10 rfl (rfl) (rfl)

set_option maxRecDepth 100000 in
set_option maxHeartbeats 4000000 in
theorem k_lengthOf {l : Launch} {g : GV} {S : SS} {I : II} {X : XX} {p : Nat} (hfl : l.stackTraces = false) (hM : isMod S) (hp : p < 25) : CE l g mX9_lengthOf 1 [.ref 508, .int (ii (p : Int))] S I X (some (.int (ii (mLn I p)))) I := by
  obtain ⟨m0, ⟨p509, q509⟩, ⟨p510, q510⟩, ⟨p511, q511⟩, ⟨p512, q512⟩, ⟨p513, q513⟩, ⟨p514, q514⟩, ⟨p515, q515⟩, ⟨p516, q516⟩, ⟨p517, q517⟩, ⟨p518, q518⟩, ⟨p519, q519⟩, ⟨p520, q520⟩, ⟨p521, q521⟩, ⟨p522, q522⟩, ⟨p523, q523⟩, ⟨p524, q524⟩, ⟨p525, q525⟩, ⟨p526, q526⟩, ⟨p527, q527⟩, ⟨p528, q528⟩, ⟨p529, q529⟩, ⟨p530, q530⟩, ⟨p531, q531⟩, ⟨p532, q532⟩, ⟨p533, q533⟩, ⟨p534, q534⟩, ⟨p535, q535⟩, ⟨p536, q536⟩, ⟨p537, q537⟩, ⟨p538, q538⟩, ⟨p539, q539⟩, ⟨p540, q540⟩⟩ := id hM
  refine v_startE hfl rfl (by decide) (Nat.le_of_ble_eq_true rfl) (ls := [some (.ref 508), some (.int (ii (p : Int)))]) rfl ?_
  refine v_aload_n dX9_lengthOf_0 rfl ?_
  refine v_getr dX9_lengthOf_1 fr_X9_9 (by assumption) (by decide) rfl (by assumption) ?_
  refine v_iload_n dX9_lengthOf_4 rfl ?_
  refine v_iconst dX9_lengthOf_5 ?_
  refine v_cS2 dX9_lengthOf_6 lk_X9_122 (k_pileAt hfl) (by decide) (Nat.le_of_ble_eq_true rfl) ?_ rfl
  refine v_iald (j := 16 + 10 * p) dX9_lengthOf_9 (by assumption) (by first | rfl | omega) (by omega) ?_
  exact v_iE dX9_lengthOf_10 rfl (rfl) (rfl)

set_option maxRecDepth 100000 in
set_option maxHeartbeats 4000000 in
theorem k_rankOf {l : Launch} {g : GV} {S : SS} {I : II} {X : XX} {p k : Nat} (hfl : l.stackTraces = false) (hM : isMod S) (hp : p < 25) (hk : k < 8) : CE l g mX9_rankOf 1 [.ref 508, .int (ii (p : Int)), .int (ii (k : Int))] S I X (some (.int (ii (mRk I p k)))) I := by
  obtain ⟨m0, ⟨p509, q509⟩, ⟨p510, q510⟩, ⟨p511, q511⟩, ⟨p512, q512⟩, ⟨p513, q513⟩, ⟨p514, q514⟩, ⟨p515, q515⟩, ⟨p516, q516⟩, ⟨p517, q517⟩, ⟨p518, q518⟩, ⟨p519, q519⟩, ⟨p520, q520⟩, ⟨p521, q521⟩, ⟨p522, q522⟩, ⟨p523, q523⟩, ⟨p524, q524⟩, ⟨p525, q525⟩, ⟨p526, q526⟩, ⟨p527, q527⟩, ⟨p528, q528⟩, ⟨p529, q529⟩, ⟨p530, q530⟩, ⟨p531, q531⟩, ⟨p532, q532⟩, ⟨p533, q533⟩, ⟨p534, q534⟩, ⟨p535, q535⟩, ⟨p536, q536⟩, ⟨p537, q537⟩, ⟨p538, q538⟩, ⟨p539, q539⟩, ⟨p540, q540⟩⟩ := id hM
  refine v_startE hfl rfl (by decide) (Nat.le_of_ble_eq_true rfl) (ls := [some (.ref 508), some (.int (ii (p : Int))), some (.int (ii (k : Int)))]) rfl ?_
  refine v_aload_n dX9_rankOf_0 rfl ?_
  refine v_getr dX9_rankOf_1 fr_X9_9 (by assumption) (by decide) rfl (by assumption) ?_
  refine v_iload_n dX9_rankOf_4 rfl ?_
  refine v_iconst dX9_rankOf_5 ?_
  refine v_iload_n dX9_rankOf_6 rfl ?_
  refine v_iadd dX9_rankOf_7 ?_
  refine v_cS2 dX9_rankOf_8 lk_X9_122 (k_pileAt hfl) (by decide) (Nat.le_of_ble_eq_true rfl) ?_ rfl
  refine v_iald (j := 17 + 10 * p + k) dX9_rankOf_11 (by assumption) (by first | rfl | omega) (by omega) ?_
  exact v_iE dX9_rankOf_12 rfl (rfl) (rfl)

set_option maxRecDepth 100000 in
set_option maxHeartbeats 4000000 in
theorem k_isGone {l : Launch} {g : GV} {S : SS} {I : II} {X : XX} {c : Nat} (hfl : l.stackTraces = false) (hM : isMod S) (hW : WfM I) (hc : c < 8) : CE l g mX9_isGone 0 [.ref 508, .int (ii (c : Int))] S I X (some (.int (ii (btI (I 509 2).toNat c)))) I := by
  obtain ⟨m0, ⟨p509, q509⟩, ⟨p510, q510⟩, ⟨p511, q511⟩, ⟨p512, q512⟩, ⟨p513, q513⟩, ⟨p514, q514⟩, ⟨p515, q515⟩, ⟨p516, q516⟩, ⟨p517, q517⟩, ⟨p518, q518⟩, ⟨p519, q519⟩, ⟨p520, q520⟩, ⟨p521, q521⟩, ⟨p522, q522⟩, ⟨p523, q523⟩, ⟨p524, q524⟩, ⟨p525, q525⟩, ⟨p526, q526⟩, ⟨p527, q527⟩, ⟨p528, q528⟩, ⟨p529, q529⟩, ⟨p530, q530⟩, ⟨p531, q531⟩, ⟨p532, q532⟩, ⟨p533, q533⟩, ⟨p534, q534⟩, ⟨p535, q535⟩, ⟨p536, q536⟩, ⟨p537, q537⟩, ⟨p538, q538⟩, ⟨p539, q539⟩, ⟨p540, q540⟩⟩ := id hM
  obtain ⟨w0, w1, w2, w3, w4, w5, w6, w7, w8, w9, w10⟩ := id hW
  obtain ⟨u, hu⟩ := Int.eq_ofNat_of_zero_le w2.1
  refine v_startE hfl rfl (by decide) (Nat.le_of_ble_eq_true rfl) (ls := [some (.ref 508), some (.int (ii (c : Int)))]) rfl ?_
  refine v_aload_n dX9_isGone_0 rfl ?_
  refine v_getr dX9_isGone_1 fr_X9_9 (by assumption) (by decide) rfl (by assumption) ?_
  refine v_iconst dX9_isGone_4 ?_
  refine v_iald (j := 2) dX9_isGone_5 (by assumption) (by first | rfl | omega) (by omega) ?_
  refine v_iload_n dX9_isGone_6 rfl ?_
  rw [hu]
  refine v_ishr (z := ((u / 2 ^ c : Nat) : Int)) dX9_isGone_7 (shr_b u (by omega) c hc) ?_
  refine v_iconst dX9_isGone_8 ?_
  refine v_iand (z := btI u c) dX9_isGone_9 (and_b _ (by have := Nat.div_le_self u (2 ^ c); omega)) ?_
  have h01 := btI_01 u c
  refine v_iconst dX9_isGone_10 ?_
  refine v_ic_ne (tgt := 18) dX9_isGone_11 (by decide) (fun h11 => ?_) (fun h11 => ?_)
  · refine v_iconst dX9_isGone_18 ?_
    exact v_zE dX9_isGone_19 rfl (by first | exact Or.inl rfl | exact Or.inr rfl | omega) (by rw [Int.toNat_natCast]; omega) (rfl)
  · refine v_iconst dX9_isGone_14 ?_
    refine v_goto (tgt := 19) dX9_isGone_15 (by decide) ?_
    exact v_zE dX9_isGone_19 rfl (by first | exact Or.inl rfl | exact Or.inr rfl | omega) (by rw [Int.toNat_natCast]; omega) (rfl)

def mPs (I : II) : Int := sumTo (mSz I) (I 509 1).toNat
set_option maxRecDepth 100000 in
set_option maxHeartbeats 4000000 in
theorem k_papers {l : Launch} {g : GV} {S : SS} {I : II} {X : XX} (hfl : l.stackTraces = false) (hM : isMod S) (hW : WfM I) : CE l g mX9_papers 2 [.ref 508] S I X (some (.int (ii (mPs I)))) I := by
  obtain ⟨m0, ⟨p509, q509⟩, ⟨p510, q510⟩, ⟨p511, q511⟩, ⟨p512, q512⟩, ⟨p513, q513⟩, ⟨p514, q514⟩, ⟨p515, q515⟩, ⟨p516, q516⟩, ⟨p517, q517⟩, ⟨p518, q518⟩, ⟨p519, q519⟩, ⟨p520, q520⟩, ⟨p521, q521⟩, ⟨p522, q522⟩, ⟨p523, q523⟩, ⟨p524, q524⟩, ⟨p525, q525⟩, ⟨p526, q526⟩, ⟨p527, q527⟩, ⟨p528, q528⟩, ⟨p529, q529⟩, ⟨p530, q530⟩, ⟨p531, q531⟩, ⟨p532, q532⟩, ⟨p533, q533⟩, ⟨p534, q534⟩, ⟨p535, q535⟩, ⟨p536, q536⟩, ⟨p537, q537⟩, ⟨p538, q538⟩, ⟨p539, q539⟩, ⟨p540, q540⟩⟩ := id hM
  obtain ⟨w0, w1, w2, w3, w4, w5, w6, w7, w8, w9, w10⟩ := id hW
  obtain ⟨n, hn⟩ := Int.eq_ofNat_of_zero_le w1.1
  unfold mPs
  rw [show (I 509 1).toNat = n by rw [hn]; rfl]
  have L : ∀ p : Nat, p ≤ n → V l g mX9_papers 2 (Zm g (QE (some (.int (ii (sumTo (mSz I) n)))) S I X)) 0 0 4 [some (.ref 508), some (.int (ii (sumTo (mSz I) p))), some (.int (ii (p : Int)))] [] S I X := by
    refine loop_up fun p hp ih => ?_
    refine v_iload_n dX9_papers_4 rfl ?_
    refine v_aload_n dX9_papers_5 rfl ?_
    refine v_getr dX9_papers_6 fr_X9_9 (by assumption) (by decide) rfl (by assumption) ?_
    refine v_iconst dX9_papers_9 ?_
    refine v_iald (j := 1) dX9_papers_10 (by assumption) (by first | rfl | omega) (by omega) ?_
    refine v_ic_ge (tgt := 28) dX9_papers_11 (by decide) (fun h11 => ?_) (fun h11 => ?_)
    · obtain rfl : p = n := by omega
      refine v_iload_n dX9_papers_28 rfl ?_
      exact v_iE dX9_papers_29 rfl (rfl) (rfl)
    · refine v_iload_n dX9_papers_14 rfl ?_
      refine v_aload_n dX9_papers_15 rfl ?_
      refine v_iload_n dX9_papers_16 rfl ?_
      refine v_cV1 dX9_papers_17 lk_X9_203 (by assumption) (by decide) rfl (k_sizeOf hfl hM (by omega)) (by decide) (Nat.le_of_ble_eq_true rfl) ?_ rfl
      refine v_iadd dX9_papers_20 ?_
      refine v_istn1 dX9_papers_21 rfl ?_
      refine v_iinc2 dX9_papers_22 rfl ?_
      refine v_goto (tgt := 4) dX9_papers_25 (by decide) ?_
      exact ih (p + 1) (by omega) (by omega)
  refine v_startE hfl rfl (by decide) (Nat.le_of_ble_eq_true rfl) (ls := [some (.ref 508), none, none]) rfl ?_
  refine v_iconst dX9_papers_0 ?_
  refine v_istn1 dX9_papers_1 rfl ?_
  refine v_iconst dX9_papers_2 ?_
  refine v_istn2 dX9_papers_3 rfl ?_
  exact L 0 (Nat.zero_le _)

/-- the place of a number in so many of a row, from k on; 8 where it is not -/
def poF (f : Nat → Int) (c : Int) : Nat → Nat → Int
  | 0, _ => 8
  | n + 1, k => if f k = c then k else poF f c n (k + 1)
theorem poF_rng (f : Nat → Int) (c : Int) : ∀ n k, n + k ≤ 8 → 0 ≤ poF f c n k ∧ poF f c n k ≤ 8
  | 0, _, _ => by
    show 0 ≤ (8 : Int) ∧ (8 : Int) ≤ 8
    decide
  | n + 1, k, h => by
    have := poF_rng f c n (k + 1) (by omega)
    unfold poF
    split <;> omega
def mPo (I : II) (p : Nat) (c : Int) : Int := poF (mRk I p) c (mLn I p).toNat 0
def mPf (I : II) (c o : Int) : Nat → Int
  | 0 => 0
  | p + 1 => mPf I c o p + if mPo I p c < mPo I p o then mSz I p else 0

set_option maxRecDepth 100000 in
set_option maxHeartbeats 4000000 in
theorem k_placeOf {l : Launch} {g : GV} {S : SS} {I : II} {X : XX} {p : Nat} {c : Int} (hfl : l.stackTraces = false) (hM : isMod S) (hW : WfM I) (hp : p < 25) (hc : -2147483648 ≤ c ∧ c < 2147483648) : CE l g mX9_placeOf 2 [.ref 508, .int (ii (p : Int)), .int (ii c)] S I X (some (.int (ii (mPo I p c)))) I := by
  obtain ⟨m0, ⟨p509, q509⟩, ⟨p510, q510⟩, ⟨p511, q511⟩, ⟨p512, q512⟩, ⟨p513, q513⟩, ⟨p514, q514⟩, ⟨p515, q515⟩, ⟨p516, q516⟩, ⟨p517, q517⟩, ⟨p518, q518⟩, ⟨p519, q519⟩, ⟨p520, q520⟩, ⟨p521, q521⟩, ⟨p522, q522⟩, ⟨p523, q523⟩, ⟨p524, q524⟩, ⟨p525, q525⟩, ⟨p526, q526⟩, ⟨p527, q527⟩, ⟨p528, q528⟩, ⟨p529, q529⟩, ⟨p530, q530⟩, ⟨p531, q531⟩, ⟨p532, q532⟩, ⟨p533, q533⟩, ⟨p534, q534⟩, ⟨p535, q535⟩, ⟨p536, q536⟩, ⟨p537, q537⟩, ⟨p538, q538⟩, ⟨p539, q539⟩, ⟨p540, q540⟩⟩ := id hM
  obtain ⟨w0, w1, w2, w3, w4, w5, w6, w7, w8, w9, w10⟩ := id hW
  have w4p := w4 p hp
  obtain ⟨n, hn⟩ := Int.eq_ofNat_of_zero_le w4p.1
  unfold mPo
  rw [show (mLn I p).toNat = n by rw [hn]; rfl]
  have L : ∀ k : Nat, k ≤ n → V l g mX9_placeOf 2 (Zm g (QE (some (.int (ii (poF (mRk I p) c (n - k) k)))) S I X)) 0 0 2 [some (.ref 508), some (.int (ii (p : Int))), some (.int (ii c)), some (.int (ii (k : Int)))] [] S I X := by
    refine loop_up fun k hk ih => ?_
    refine v_iload_n dX9_placeOf_2 rfl ?_
    refine v_aload_n dX9_placeOf_3 rfl ?_
    refine v_iload_n dX9_placeOf_4 rfl ?_
    refine v_cV1 dX9_placeOf_5 lk_X9_199 (by assumption) (by decide) rfl (k_lengthOf hfl hM hp) (by decide) (Nat.le_of_ble_eq_true rfl) ?_ rfl
    refine v_ic_ge (tgt := 29) dX9_placeOf_8 (by decide) (fun h8 => ?_) (fun h8 => ?_)
    · refine v_bipush dX9_placeOf_29 (by decide) ?_
      exact v_iE dX9_placeOf_31 rfl (by rw [show n - k = 0 by omega]; rfl) (rfl)
    · have g9 := w5 p k hp (by omega)
      have ex : poF (mRk I p) c (n - k) k = if mRk I p k = c then (k : Int) else poF (mRk I p) c (n - (k + 1)) (k + 1) := by
        rw [show n - k = (n - (k + 1)) + 1 by omega]
        rfl
      refine v_aload_n dX9_placeOf_11 rfl ?_
      refine v_iload_n dX9_placeOf_12 rfl ?_
      refine v_iload_n dX9_placeOf_13 rfl ?_
      refine v_cV2 dX9_placeOf_14 lk_X9_206 (by assumption) (by decide) rfl (k_rankOf hfl hM hp (by omega)) (by decide) (Nat.le_of_ble_eq_true rfl) ?_ rfl
      refine v_iload_n dX9_placeOf_17 rfl ?_
      refine v_ic_ne (tgt := 23) dX9_placeOf_18 (by decide) (fun h18 => ?_) (fun h18 => ?_)
      · refine v_iinc3 dX9_placeOf_23 rfl ?_
        refine v_goto (tgt := 2) dX9_placeOf_26 (by decide) ?_
        rw [ex, if_neg (by omega)]
        exact ih (k + 1) (by omega) (by omega)
      · refine v_iload_n dX9_placeOf_21 rfl ?_
        exact v_iE dX9_placeOf_22 rfl (by rw [ex, if_pos h18]) (rfl)
  refine v_startE hfl rfl (by decide) (Nat.le_of_ble_eq_true rfl) (ls := [some (.ref 508), some (.int (ii (p : Int))), some (.int (ii c)), none]) rfl ?_
  refine v_iconst dX9_placeOf_0 ?_
  refine v_istn3 dX9_placeOf_1 rfl ?_
  exact L 0 (Nat.zero_le _)

set_option maxRecDepth 100000 in
set_option maxHeartbeats 4000000 in
theorem k_prefer {l : Launch} {g : GV} {S : SS} {I : II} {X : XX} {c o : Int} (hfl : l.stackTraces = false) (hM : isMod S) (hW : WfM I) (hc : -2147483648 ≤ c ∧ c < 2147483648) (ho : -2147483648 ≤ o ∧ o < 2147483648) : CE l g mX9_prefer 3 [.ref 508, .int (ii c), .int (ii o)] S I X (some (.int (ii (mPf I c o (I 509 1).toNat)))) I := by
  obtain ⟨m0, ⟨p509, q509⟩, ⟨p510, q510⟩, ⟨p511, q511⟩, ⟨p512, q512⟩, ⟨p513, q513⟩, ⟨p514, q514⟩, ⟨p515, q515⟩, ⟨p516, q516⟩, ⟨p517, q517⟩, ⟨p518, q518⟩, ⟨p519, q519⟩, ⟨p520, q520⟩, ⟨p521, q521⟩, ⟨p522, q522⟩, ⟨p523, q523⟩, ⟨p524, q524⟩, ⟨p525, q525⟩, ⟨p526, q526⟩, ⟨p527, q527⟩, ⟨p528, q528⟩, ⟨p529, q529⟩, ⟨p530, q530⟩, ⟨p531, q531⟩, ⟨p532, q532⟩, ⟨p533, q533⟩, ⟨p534, q534⟩, ⟨p535, q535⟩, ⟨p536, q536⟩, ⟨p537, q537⟩, ⟨p538, q538⟩, ⟨p539, q539⟩, ⟨p540, q540⟩⟩ := id hM
  obtain ⟨w0, w1, w2, w3, w4, w5, w6, w7, w8, w9, w10⟩ := id hW
  obtain ⟨n, hn⟩ := Int.eq_ofNat_of_zero_le w1.1
  rw [show (I 509 1).toNat = n by rw [hn]; rfl]
  have L : ∀ p : Nat, p ≤ n → V l g mX9_prefer 3 (Zm g (QE (some (.int (ii (mPf I c o n)))) S I X)) 0 0 5 [some (.ref 508), some (.int (ii c)), some (.int (ii o)), some (.int (ii (mPf I c o p))), some (.int (ii (p : Int)))] [] S I X := by
    refine loop_up fun p hp ih => ?_
    refine v_iload dX9_prefer_5 rfl ?_
    refine v_aload_n dX9_prefer_7 rfl ?_
    refine v_getr dX9_prefer_8 fr_X9_9 (by assumption) (by decide) rfl (by assumption) ?_
    refine v_iconst dX9_prefer_11 ?_
    refine v_iald (j := 1) dX9_prefer_12 (by assumption) (by first | rfl | omega) (by omega) ?_
    refine v_ic_ge (tgt := 52) dX9_prefer_13 (by decide) (fun h13 => ?_) (fun h13 => ?_)
    · obtain rfl : p = n := by omega
      refine v_iload_n dX9_prefer_52 rfl ?_
      exact v_iE dX9_prefer_53 rfl (rfl) (rfl)
    · have w4p := w4 p (by omega)
      have o1 := poF_rng (mRk I p) c (mLn I p).toNat 0 (by omega)
      have o2 := poF_rng (mRk I p) o (mLn I p).toNat 0 (by omega)
      have e1 : mPo I p c = poF (mRk I p) c (mLn I p).toNat 0 := rfl
      have e2 : mPo I p o = poF (mRk I p) o (mLn I p).toNat 0 := rfl
      have ex : mPf I c o (p + 1) = mPf I c o p + if mPo I p c < mPo I p o then mSz I p else 0 := rfl
      refine v_iload_n dX9_prefer_16 rfl ?_
      refine v_aload_n dX9_prefer_17 rfl ?_
      refine v_iload dX9_prefer_18 rfl ?_
      refine v_iload_n dX9_prefer_20 rfl ?_
      refine v_cV2 dX9_prefer_21 lk_X9_300 (by assumption) (by decide) rfl (k_placeOf hfl hM hW (by omega) hc) (by decide) (Nat.le_of_ble_eq_true rfl) ?_ rfl
      refine v_aload_n dX9_prefer_24 rfl ?_
      refine v_iload dX9_prefer_25 rfl ?_
      refine v_iload_n dX9_prefer_27 rfl ?_
      refine v_cV2 dX9_prefer_28 lk_X9_300 (by assumption) (by decide) rfl (k_placeOf hfl hM hW (by omega) ho) (by decide) (Nat.le_of_ble_eq_true rfl) ?_ rfl
      refine v_ic_ge (tgt := 43) dX9_prefer_31 (by decide) (fun h31 => ?_) (fun h31 => ?_)
      · refine v_iconst dX9_prefer_43 ?_
        refine v_iadd dX9_prefer_44 ?_
        refine v_istn3 dX9_prefer_45 rfl ?_
        refine v_iinc4 dX9_prefer_46 rfl ?_
        refine v_goto (tgt := 5) dX9_prefer_49 (by decide) ?_
        have q9 := ih (p + 1) (by omega) (by omega)
        rw [ex] at q9
        first
          | (rw [if_pos (by omega)] at q9; exact q9)
          | (rw [if_neg (by omega)] at q9; exact q9)
      · refine v_aload_n dX9_prefer_34 rfl ?_
        refine v_iload dX9_prefer_35 rfl ?_
        refine v_cV1 dX9_prefer_37 lk_X9_203 (by assumption) (by decide) rfl (k_sizeOf hfl hM (by omega)) (by decide) (Nat.le_of_ble_eq_true rfl) ?_ rfl
        refine v_goto (tgt := 44) dX9_prefer_40 (by decide) ?_
        refine v_iadd dX9_prefer_44 ?_
        refine v_istn3 dX9_prefer_45 rfl ?_
        refine v_iinc4 dX9_prefer_46 rfl ?_
        refine v_goto (tgt := 5) dX9_prefer_49 (by decide) ?_
        have q9 := ih (p + 1) (by omega) (by omega)
        rw [ex] at q9
        first
          | (rw [if_pos (by omega)] at q9; exact q9)
          | (rw [if_neg (by omega)] at q9; exact q9)
  refine v_startE hfl rfl (by decide) (Nat.le_of_ble_eq_true rfl) (ls := [some (.ref 508), some (.int (ii c)), some (.int (ii o)), none, none]) rfl ?_
  refine v_iconst dX9_prefer_0 ?_
  refine v_istn3 dX9_prefer_1 rfl ?_
  refine v_iconst dX9_prefer_2 ?_
  refine v_ist4 dX9_prefer_3 rfl ?_
  exact L 0 (Nat.zero_le _)

set_option maxRecDepth 100000 in
set_option maxHeartbeats 4000000 in
theorem k_votesIn {l : Launch} {g : GV} {S : SS} {I : II} {X : XX} {r c : Nat} (hfl : l.stackTraces = false) (hM : isMod S) (hr : r < 24) (hc : c < 8) : CE l g mX9_votesIn 0 [.ref 508, .int (ii (r : Int)), .int (ii (c : Int))] S I X (some (.int (ii (I 515 (8 * r + c))))) I := by
  obtain ⟨m0, ⟨p509, q509⟩, ⟨p510, q510⟩, ⟨p511, q511⟩, ⟨p512, q512⟩, ⟨p513, q513⟩, ⟨p514, q514⟩, ⟨p515, q515⟩, ⟨p516, q516⟩, ⟨p517, q517⟩, ⟨p518, q518⟩, ⟨p519, q519⟩, ⟨p520, q520⟩, ⟨p521, q521⟩, ⟨p522, q522⟩, ⟨p523, q523⟩, ⟨p524, q524⟩, ⟨p525, q525⟩, ⟨p526, q526⟩, ⟨p527, q527⟩, ⟨p528, q528⟩, ⟨p529, q529⟩, ⟨p530, q530⟩, ⟨p531, q531⟩, ⟨p532, q532⟩, ⟨p533, q533⟩, ⟨p534, q534⟩, ⟨p535, q535⟩, ⟨p536, q536⟩, ⟨p537, q537⟩, ⟨p538, q538⟩, ⟨p539, q539⟩, ⟨p540, q540⟩⟩ := id hM
  refine v_startE hfl rfl (by decide) (Nat.le_of_ble_eq_true rfl) (ls := [some (.ref 508), some (.int (ii (r : Int))), some (.int (ii (c : Int)))]) rfl ?_
  refine v_aload_n dX9_votesIn_0 rfl ?_
  refine v_getr dX9_votesIn_1 fr_X9_32 (by assumption) (by decide) rfl (by assumption) ?_
  refine v_bipush dX9_votesIn_4 (by decide) ?_
  refine v_iload_n dX9_votesIn_6 rfl ?_
  refine v_imul dX9_votesIn_7 ?_
  refine v_iload_n dX9_votesIn_8 rfl ?_
  refine v_iadd dX9_votesIn_9 ?_
  refine v_iald (j := 8 * r + c) dX9_votesIn_10 (by assumption) (by first | rfl | omega) (by omega) ?_
  exact v_iE dX9_votesIn_11 rfl (rfl) (rfl)

theorem one_b : ∀ s : Nat, s < 256 → ii ((s : Nat) : Int) &&& ii (((s : Nat) : Int) - 1) = ii ((s &&& (s - 1) : Nat) : Int) := by decide +kernel
theorem one_pop : ∀ s : Nat, s < 256 → (pop8 s ≤ 1 ↔ s &&& (s - 1) = 0) := by decide +kernel
def onF (s : Nat) : Int := if pop8 s ≤ 1 then 1 else 0
def bcF : Nat → Nat → Nat
  | 0, _ => 0
  | f + 1, k => if k = 0 then 0 else k % 2 + bcF f (k / 2)
theorem bc_pop : ∀ s : Nat, s < 256 → bcF 9 s = pop8 s := by decide +kernel
theorem lt_pow8 {k : Nat} (h : k < 2 ^ 8) : k < 256 := h

set_option maxRecDepth 100000 in
set_option maxHeartbeats 4000000 in
theorem k_isOne {l : Launch} {g : GV} {S : SS} {I : II} {X : XX} {s : Nat} (hfl : l.stackTraces = false) (hs : s < 256) : CE l g mX9_isOne 0 [.int (ii (s : Int))] S I X (some (.int (ii (onF s)))) I := by
  refine v_startE hfl rfl (by decide) (Nat.le_of_ble_eq_true rfl) (ls := [some (.int (ii (s : Int)))]) rfl ?_
  refine v_iload_n dX9_isOne_0 rfl ?_
  refine v_iload_n dX9_isOne_1 rfl ?_
  refine v_iconst dX9_isOne_2 ?_
  refine v_isub dX9_isOne_3 ?_
  refine v_iand (z := ((s &&& (s - 1) : Nat) : Int)) dX9_isOne_4 (one_b s hs) ?_
  have ob := one_pop s hs
  have o2 : s &&& (s - 1) ≤ s := Nat.and_le_left
  refine v_if_ne (tgt := 12) dX9_isOne_5 (by decide) (fun h5 => ?_) (fun h5 => ?_)
  · refine v_iconst dX9_isOne_12 ?_
    exact v_zE dX9_isOne_13 rfl (by first | exact Or.inl rfl | exact Or.inr rfl | omega) (by unfold onF; first | rw [if_pos (by omega)] | rw [if_neg (by omega)]) (rfl)
  · refine v_iconst dX9_isOne_8 ?_
    refine v_goto (tgt := 13) dX9_isOne_9 (by decide) ?_
    exact v_zE dX9_isOne_13 rfl (by first | exact Or.inl rfl | exact Or.inr rfl | omega) (by unfold onF; first | rw [if_pos (by omega)] | rw [if_neg (by omega)]) (rfl)

set_option maxRecDepth 100000 in
set_option maxHeartbeats 4000000 in
theorem k_bits {l : Launch} {g : GV} {S : SS} {I : II} {X : XX} {s : Nat} (hfl : l.stackTraces = false) (hs : s < 256) : CE l g mX9_bits 0 [.int (ii (s : Int))] S I X (some (.int (ii ((pop8 s : Nat))))) I := by
  rw [← bc_pop s hs]
  have L : ∀ i : Nat, i ≤ 8 → ∀ (k : Nat) (a : Int), k < 2 ^ (8 - i) → V l g mX9_bits 0 (Zm g (QE (some (.int (ii (a + ((bcF (9 - i) k : Nat) : Int))))) S I X)) 0 0 4 [some (.int (ii (s : Int))), some (.int (ii a)), some (.int (ii (k : Int)))] [] S I X := by
    refine loop_up fun i hi ih => ?_
    intro k a hk
    have hk8 : k < 256 := lt_pow8 (Nat.lt_of_lt_of_le hk (Nat.pow_le_pow_right (by decide) (by omega)))
    refine v_iload_n dX9_bits_4 rfl ?_
    refine v_if_le (tgt := 21) dX9_bits_5 (by decide) (fun h5 => ?_) (fun h5 => ?_)
    · refine v_iload_n dX9_bits_21 rfl ?_
      exact v_iE dX9_bits_22 rfl (by rw [show k = 0 by omega, show 9 - i = (8 - i) + 1 by omega]; exact (Int.add_zero _).symm) rfl
    · refine v_iload_n dX9_bits_8 rfl ?_
      refine v_iload_n dX9_bits_9 rfl ?_
      refine v_iconst dX9_bits_10 ?_
      refine v_iand (z := ((k % 2 : Nat) : Int)) dX9_bits_11 (and_b k hk8) ?_
      refine v_iadd dX9_bits_12 ?_
      refine v_istn1 dX9_bits_13 rfl ?_
      refine v_iload_n dX9_bits_14 rfl ?_
      refine v_iconst dX9_bits_15 ?_
      refine v_ishr (z := ((k / 2 : Nat) : Int)) dX9_bits_16 (shr_b k hk8 1 (by decide)) ?_
      refine v_istn2 dX9_bits_17 rfl ?_
      refine v_goto (tgt := 4) dX9_bits_18 (by decide) ?_
      have hi8 : i < 8 := by
        rcases Nat.lt_or_ge i 8 with h | h
        · exact h
        · rw [show i = 8 by omega] at hk
          have : k < 1 := hk
          omega
      have hk2 : k / 2 < 2 ^ (8 - (i + 1)) := by
        have e1 : 2 ^ (8 - i) = 2 * 2 ^ (8 - (i + 1)) := by rw [show 8 - i = (8 - (i + 1)) + 1 by omega, Nat.pow_succ]; omega
        omega
      have q9 := ih (i + 1) (by omega) (by omega) (k / 2) (a + ((k % 2 : Nat) : Int)) hk2
      have ex : a + ((bcF (9 - i) k : Nat) : Int) = a + ((k % 2 : Nat) : Int) + ((bcF (9 - (i + 1)) (k / 2) : Nat) : Int) := by
        rw [show 9 - i = (9 - (i + 1)) + 1 by omega]
        show a + (((if k = 0 then 0 else k % 2 + bcF (9 - (i + 1)) (k / 2)) : Nat) : Int) = _
        rw [if_neg (by omega)]
        omega
      rw [ex]
      exact q9
  have q0 := L 0 (Nat.zero_le _) s 0 hs
  rw [Int.zero_add] at q0
  refine v_startE hfl rfl (by decide) (Nat.le_of_ble_eq_true rfl) (ls := [some (.int (ii (s : Int))), none, none]) rfl ?_
  refine v_iconst dX9_bits_0 ?_
  refine v_istn1 dX9_bits_1 rfl ?_
  refine v_iload_n dX9_bits_2 rfl ?_
  refine v_istn2 dX9_bits_3 rfl ?_
  exact q0
