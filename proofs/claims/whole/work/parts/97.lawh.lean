/-! THE LAW'S HELPERS: a call of the class, its throws turned to numbers -/
def R1 (E1 : String) (r : RR) : Prop := (∃ z, r.1 = .inl (some (.int (ii z)))) ∨ r.1 = .inr E1
def R2 (E1 E2 : String) (r : RR) : Prop := (∃ z, r.1 = .inl (some (.int (ii z)))) ∨ r.1 = .inr E1 ∨ r.1 = .inr E2
def RB (E1 : String) (r : RR) : Prop := (∃ z, (z = 0 ∨ z = 1) ∧ r.1 = .inl (some (.int (ii z)))) ∨ r.1 = .inr E1
def RF (E1 E2 : String) (r : RR) : Prop := (∃ u, vf_n64 (FP.f2d u) ∧ r.1 = .inl (some (.float u))) ∨ r.1 = .inr E1 ∨ r.1 = .inr E2
def LQ1 (E1 : String) (r : RR) (S2 : SS) : QQ := fun o S3 I3 X3 => S3 = S2 ∧ I3 = r.2 ∧ ∃ k : Int, o = .inl (some (.int (ii k))) ∧ ((∃ z, r.1 = .inl (some (.int (ii z))) ∧ k = 0 ∧ X3.1 541 0 = jj (wr z)) ∨ (r.1 = .inr E1 ∧ k = 1))
def LQ2 (E1 E2 : String) (r : RR) (S2 : SS) : QQ := fun o S3 I3 X3 => S3 = S2 ∧ I3 = r.2 ∧ ∃ k : Int, o = .inl (some (.int (ii k))) ∧ ((∃ z, r.1 = .inl (some (.int (ii z))) ∧ k = 0 ∧ X3.1 541 0 = jj (wr z)) ∨ (r.1 = .inr E1 ∧ k = 1) ∨ (r.1 = .inr E2 ∧ k = 2))
def LQF (E1 E2 : String) (r : RR) (S2 : SS) : QQ := fun o S3 I3 X3 => S3 = S2 ∧ I3 = r.2 ∧ ∃ k : Int, o = .inl (some (.int (ii k))) ∧ ((∃ u, r.1 = .inl (some (.float u)) ∧ k = 0 ∧ X3.2 542 0 = FP.f2d u) ∨ (r.1 = .inr E1 ∧ k = 1) ∨ (r.1 = .inr E2 ∧ k = 2))
theorem upL_v {X : Nat → Nat → Int64} {a j : Nat} {y : Int64} : upL X a j y a j = y := by
  rw [upL_at]
  exact if_pos rfl
theorem upL_p {X : XX} {y y2 : Int64} (h : y = y2) : ((upL X.1 541 0 y, X.2) : XX).1 541 0 = y2 := by
  show upL X.1 541 0 y 541 0 = y2
  exact upL_v.trans h
theorem upD_v {X : Nat → Nat → UInt64} {a j : Nat} {y : UInt64} : upD X a j y a j = y := by
  rw [upD_at]
  exact if_pos rfl
theorem upD_p {X : XX} {y y2 : UInt64} (h : y = y2) : ((X.1, upD X.2 542 0 y) : XX).2 542 0 = y2 := by
  show upD X.2 542 0 y 542 0 = y2
  exact upD_v.trans h

set_option maxRecDepth 100000 in
set_option maxHeartbeats 4000000 in
theorem h_begin {l : Launch} {g : GV} {S S2 : SS} {I : II} {X : XX} {r : RR} {a1 a2 : Int} (hfl : l.stackTraces = false) (hno : S.2.2 = false) (hno2 : S2.2.2 = false) (h0 : S.1[0]? = some (8, 14)) (h541 : S2.1[541]? = some (24, 1)) (hC : CT l g mX8_begin 6 1 6 [.ref 0, .int (ii a1), .int (ii a2)] S I X (QT r S2 X)) (hr : R1 IAE r) : CT l g mL_begin 8 1 6 [.ref 0, .int (ii a1), .int (ii a2), .ref 541] S I X (LQ1 IAE r S2) := by
  refine v_startH hfl (by decide) (by decide) (Nat.le_of_ble_eq_true rfl) (ls := [some (.ref 0), some (.int (ii a1)), some (.int (ii a2)), some (.ref 541), none]) rfl ?_
  refine v_aload_n dL_begin_0 rfl ?_
  refine v_iconst dL_begin_1 ?_
  refine v_aload_n dL_begin_2 rfl ?_
  refine v_iload_n dL_begin_3 rfl ?_
  refine v_iload_n dL_begin_4 rfl ?_
  refine v_callX (bc2 := 0) (bs2 := 0) (As := [.int (ii a1), .int (ii a2)]) dL_begin_5 lk_L_7 rfl rfl h0 (by decide) rfl hC (by decide) (Nat.le_of_ble_eq_true rfl) hno ?_ ?_ rfl rfl ?_
  · intro E S3 I3 X3 h
    obtain ⟨q1, rfl, rfl, rfl⟩ := h
    refine ⟨hno2, ?_⟩
    rcases hr with ⟨z, hr⟩ | hr
    · rw [hr] at q1; cases q1
    · rw [hr] at q1; cases q1
      exact ⟨1, hd_L_begin_1, rfl, rfl, 1, rfl, Or.inr ⟨hr, rfl⟩⟩
  · intro v S3 I3 X3 h
    obtain ⟨_, rfl, _, _⟩ := h
    exact hno2
  · intro v S3 I3 X3 h
    obtain ⟨q1, rfl, rfl, rfl⟩ := h
    rcases hr with ⟨z, hr⟩ | hr
    · have hr2 := hr
      rw [← ii_wr z] at hr2
      rw [hr2] at q1; cases q1
      have hw := wr_rng z
      refine v_i2l dL_begin_8 ?_
      refine v_last (j := 0) dL_begin_9 h541 rfl (by decide) ?_
      refine v_goto (tgt := 17) dL_begin_10 (by decide) ?_
      refine v_iconst dL_begin_17 ?_
      exact v_iret dL_begin_18 rfl ⟨rfl, rfl, 0, rfl, Or.inl ⟨z, hr, rfl, upL_p rfl⟩⟩ (fun h => absurd (hno2.symm.trans h) (by decide))
    · rw [hr] at q1; cases q1

set_option maxRecDepth 100000 in
set_option maxHeartbeats 4000000 in
theorem h_append {l : Launch} {g : GV} {S S2 : SS} {I : II} {X : XX} {r : RR} {a1 : Int} (hfl : l.stackTraces = false) (hno : S.2.2 = false) (hno2 : S2.2.2 = false) (h0 : S.1[0]? = some (8, 14)) (h541 : S2.1[541]? = some (24, 1)) (hC : CT l g mX8_append 6 1 6 [.ref 0, .int (ii a1)] S I X (QT r S2 X)) (hr : R2 IAE ISE r) : CT l g mL_append 8 1 6 [.ref 0, .int (ii a1), .ref 541] S I X (LQ2 IAE ISE r S2) := by
  refine v_startH hfl (by decide) (by decide) (Nat.le_of_ble_eq_true rfl) (ls := [some (.ref 0), some (.int (ii a1)), some (.ref 541), none]) rfl ?_
  refine v_aload_n dL_append_0 rfl ?_
  refine v_iconst dL_append_1 ?_
  refine v_aload_n dL_append_2 rfl ?_
  refine v_iload_n dL_append_3 rfl ?_
  refine v_callX (bc2 := 0) (bs2 := 0) (As := [.int (ii a1)]) dL_append_4 lk_L_15 rfl rfl h0 (by decide) rfl hC (by decide) (Nat.le_of_ble_eq_true rfl) hno ?_ ?_ rfl rfl ?_
  · intro E S3 I3 X3 h
    obtain ⟨q1, rfl, rfl, rfl⟩ := h
    refine ⟨hno2, ?_⟩
    rcases hr with ⟨z, hr⟩ | hr | hr
    · rw [hr] at q1; cases q1
    · rw [hr] at q1; cases q1
      exact ⟨1, hd_L_append_1, rfl, rfl, 1, rfl, Or.inr (Or.inl ⟨hr, rfl⟩)⟩
    · rw [hr] at q1; cases q1
      exact ⟨2, hd_L_append_2, rfl, rfl, 2, rfl, Or.inr (Or.inr ⟨hr, rfl⟩)⟩
  · intro v S3 I3 X3 h
    obtain ⟨_, rfl, _, _⟩ := h
    exact hno2
  · intro v S3 I3 X3 h
    obtain ⟨q1, rfl, rfl, rfl⟩ := h
    rcases hr with ⟨z, hr⟩ | hr | hr
    · have hr2 := hr
      rw [← ii_wr z] at hr2
      rw [hr2] at q1; cases q1
      have hw := wr_rng z
      refine v_i2l dL_append_7 ?_
      refine v_last (j := 0) dL_append_8 h541 rfl (by decide) ?_
      refine v_goto (tgt := 18) dL_append_9 (by decide) ?_
      refine v_iconst dL_append_18 ?_
      exact v_iret dL_append_19 rfl ⟨rfl, rfl, 0, rfl, Or.inl ⟨z, hr, rfl, upL_p rfl⟩⟩ (fun h => absurd (hno2.symm.trans h) (by decide))
    · rw [hr] at q1; cases q1
    · rw [hr] at q1; cases q1

set_option maxRecDepth 100000 in
set_option maxHeartbeats 4000000 in
theorem h_execute {l : Launch} {g : GV} {S S2 : SS} {I : II} {X : XX} {r : RR} (hfl : l.stackTraces = false) (hno : S.2.2 = false) (hno2 : S2.2.2 = false) (h0 : S.1[0]? = some (8, 14)) (h541 : S2.1[541]? = some (24, 1)) (hC : CT l g mX8_execute 6 1 6 [.ref 0] S I X (QT r S2 X)) (hr : R1 IAE r) : CT l g mL_execute 8 1 6 [.ref 0, .ref 541] S I X (LQ1 IAE r S2) := by
  refine v_startH hfl (by decide) (by decide) (Nat.le_of_ble_eq_true rfl) (ls := [some (.ref 0), some (.ref 541), none]) rfl ?_
  refine v_aload_n dL_execute_0 rfl ?_
  refine v_iconst dL_execute_1 ?_
  refine v_aload_n dL_execute_2 rfl ?_
  refine v_callX (bc2 := 0) (bs2 := 0) (As := []) dL_execute_3 lk_L_21 rfl rfl h0 (by decide) rfl hC (by decide) (Nat.le_of_ble_eq_true rfl) hno ?_ ?_ rfl rfl ?_
  · intro E S3 I3 X3 h
    obtain ⟨q1, rfl, rfl, rfl⟩ := h
    refine ⟨hno2, ?_⟩
    rcases hr with ⟨z, hr⟩ | hr
    · rw [hr] at q1; cases q1
    · rw [hr] at q1; cases q1
      exact ⟨1, hd_L_execute_1, rfl, rfl, 1, rfl, Or.inr ⟨hr, rfl⟩⟩
  · intro v S3 I3 X3 h
    obtain ⟨_, rfl, _, _⟩ := h
    exact hno2
  · intro v S3 I3 X3 h
    obtain ⟨q1, rfl, rfl, rfl⟩ := h
    rcases hr with ⟨z, hr⟩ | hr
    · have hr2 := hr
      rw [← ii_wr z] at hr2
      rw [hr2] at q1; cases q1
      have hw := wr_rng z
      refine v_i2l dL_execute_6 ?_
      refine v_last (j := 0) dL_execute_7 h541 rfl (by decide) ?_
      refine v_goto (tgt := 14) dL_execute_8 (by decide) ?_
      refine v_iconst dL_execute_14 ?_
      exact v_iret dL_execute_15 rfl ⟨rfl, rfl, 0, rfl, Or.inl ⟨z, hr, rfl, upL_p rfl⟩⟩ (fun h => absurd (hno2.symm.trans h) (by decide))
    · rw [hr] at q1; cases q1

set_option maxRecDepth 100000 in
set_option maxHeartbeats 4000000 in
theorem h_set {l : Launch} {g : GV} {S S2 : SS} {I : II} {X : XX} {r : RR} {a1 a2 : Int} (hfl : l.stackTraces = false) (hno : S.2.2 = false) (hno2 : S2.2.2 = false) (h0 : S.1[0]? = some (8, 14)) (h541 : S2.1[541]? = some (24, 1)) (hC : CT l g mX8_set 6 1 6 [.ref 0, .int (ii a1), .int (ii a2)] S I X (QT r S2 X)) (hr : R1 IAE r) : CT l g mL_set 8 1 6 [.ref 0, .int (ii a1), .int (ii a2), .ref 541] S I X (LQ1 IAE r S2) := by
  refine v_startH hfl (by decide) (by decide) (Nat.le_of_ble_eq_true rfl) (ls := [some (.ref 0), some (.int (ii a1)), some (.int (ii a2)), some (.ref 541), none]) rfl ?_
  refine v_aload_n dL_set_0 rfl ?_
  refine v_iconst dL_set_1 ?_
  refine v_aload_n dL_set_2 rfl ?_
  refine v_iload_n dL_set_3 rfl ?_
  refine v_iload_n dL_set_4 rfl ?_
  refine v_callX (bc2 := 0) (bs2 := 0) (As := [.int (ii a1), .int (ii a2)]) dL_set_5 lk_L_25 rfl rfl h0 (by decide) rfl hC (by decide) (Nat.le_of_ble_eq_true rfl) hno ?_ ?_ rfl rfl ?_
  · intro E S3 I3 X3 h
    obtain ⟨q1, rfl, rfl, rfl⟩ := h
    refine ⟨hno2, ?_⟩
    rcases hr with ⟨z, hr⟩ | hr
    · rw [hr] at q1; cases q1
    · rw [hr] at q1; cases q1
      exact ⟨1, hd_L_set_1, rfl, rfl, 1, rfl, Or.inr ⟨hr, rfl⟩⟩
  · intro v S3 I3 X3 h
    obtain ⟨_, rfl, _, _⟩ := h
    exact hno2
  · intro v S3 I3 X3 h
    obtain ⟨q1, rfl, rfl, rfl⟩ := h
    rcases hr with ⟨z, hr⟩ | hr
    · have hr2 := hr
      rw [← ii_wr z] at hr2
      rw [hr2] at q1; cases q1
      have hw := wr_rng z
      refine v_i2l dL_set_8 ?_
      refine v_last (j := 0) dL_set_9 h541 rfl (by decide) ?_
      refine v_goto (tgt := 17) dL_set_10 (by decide) ?_
      refine v_iconst dL_set_17 ?_
      exact v_iret dL_set_18 rfl ⟨rfl, rfl, 0, rfl, Or.inl ⟨z, hr, rfl, upL_p rfl⟩⟩ (fun h => absurd (hno2.symm.trans h) (by decide))
    · rw [hr] at q1; cases q1

set_option maxRecDepth 100000 in
set_option maxHeartbeats 4000000 in
theorem h_withdraw {l : Launch} {g : GV} {S S2 : SS} {I : II} {X : XX} {r : RR} {a1 : Int} (hfl : l.stackTraces = false) (hno : S.2.2 = false) (hno2 : S2.2.2 = false) (h0 : S.1[0]? = some (8, 14)) (h541 : S2.1[541]? = some (24, 1)) (hC : CT l g mX8_withdraw 6 1 6 [.ref 0, .int (ii a1)] S I X (QT r S2 X)) (hr : RB IOB r) : CT l g mL_withdraw 8 1 6 [.ref 0, .int (ii a1), .ref 541] S I X (LQ1 IOB r S2) := by
  refine v_startH hfl (by decide) (by decide) (Nat.le_of_ble_eq_true rfl) (ls := [some (.ref 0), some (.int (ii a1)), some (.ref 541), none]) rfl ?_
  refine v_aload_n dL_withdraw_0 rfl ?_
  refine v_iconst dL_withdraw_1 ?_
  refine v_aload_n dL_withdraw_2 rfl ?_
  refine v_iload_n dL_withdraw_3 rfl ?_
  refine v_callX (bc2 := 0) (bs2 := 0) (As := [.int (ii a1)]) dL_withdraw_4 lk_L_28 rfl rfl h0 (by decide) rfl hC (by decide) (Nat.le_of_ble_eq_true rfl) hno ?_ ?_ rfl rfl ?_
  · intro E S3 I3 X3 h
    obtain ⟨q1, rfl, rfl, rfl⟩ := h
    refine ⟨hno2, ?_⟩
    rcases hr with ⟨z, hz, hr⟩ | hr
    · rw [hr] at q1; cases q1
    · rw [hr] at q1; cases q1
      exact ⟨1, hd_L_withdraw_1, rfl, rfl, 1, rfl, Or.inr ⟨hr, rfl⟩⟩
  · intro v S3 I3 X3 h
    obtain ⟨_, rfl, _, _⟩ := h
    exact hno2
  · intro v S3 I3 X3 h
    obtain ⟨q1, rfl, rfl, rfl⟩ := h
    rcases hr with ⟨z, hz, hr⟩ | hr
    · rw [hr] at q1; cases q1
      rcases hz with rfl | rfl
      · refine v_if_eq (tgt := 14) dL_withdraw_7 (by decide) (fun h9 => ?_) (fun h9 => absurd rfl h9)
        refine v_lconst dL_withdraw_14 rfl ?_
        refine v_last (j := 0) dL_withdraw_15 h541 rfl (by decide) ?_
        refine v_goto (tgt := 22) dL_withdraw_16 (by decide) ?_
        refine v_iconst dL_withdraw_22 ?_
        exact v_iret dL_withdraw_23 rfl ⟨rfl, rfl, 0, rfl, Or.inl ⟨0, hr, rfl, upL_p (by decide)⟩⟩ (fun h => absurd (hno2.symm.trans h) (by decide))
      · refine v_if_eq (tgt := 14) dL_withdraw_7 (by decide) (fun h9 => absurd h9 (by decide)) (fun h9 => ?_)
        refine v_lconst dL_withdraw_10 rfl ?_
        refine v_goto (tgt := 15) dL_withdraw_11 (by decide) ?_
        refine v_last (j := 0) dL_withdraw_15 h541 rfl (by decide) ?_
        refine v_goto (tgt := 22) dL_withdraw_16 (by decide) ?_
        refine v_iconst dL_withdraw_22 ?_
        exact v_iret dL_withdraw_23 rfl ⟨rfl, rfl, 0, rfl, Or.inl ⟨1, hr, rfl, upL_p (by decide)⟩⟩ (fun h => absurd (hno2.symm.trans h) (by decide))
    · rw [hr] at q1; cases q1

set_option maxRecDepth 100000 in
set_option maxHeartbeats 4000000 in
theorem h_pile {l : Launch} {g : GV} {S S2 : SS} {I : II} {X : XX} {r : RR} {a1 a2 : Int} (hfl : l.stackTraces = false) (hno : S.2.2 = false) (hno2 : S2.2.2 = false) (h0 : S.1[0]? = some (8, 14)) (h541 : S2.1[541]? = some (24, 1)) (hC : CT l g mX8_pile 6 1 6 [.ref 0, .int (ii a1), .int (ii a2)] S I X (QT r S2 X)) (hr : R2 IOB IAE r) : CT l g mL_pile 8 1 6 [.ref 0, .int (ii a1), .int (ii a2), .ref 541] S I X (LQ2 IOB IAE r S2) := by
  refine v_startH hfl (by decide) (by decide) (Nat.le_of_ble_eq_true rfl) (ls := [some (.ref 0), some (.int (ii a1)), some (.int (ii a2)), some (.ref 541), none]) rfl ?_
  refine v_aload_n dL_pile_0 rfl ?_
  refine v_iconst dL_pile_1 ?_
  refine v_aload_n dL_pile_2 rfl ?_
  refine v_iload_n dL_pile_3 rfl ?_
  refine v_iload_n dL_pile_4 rfl ?_
  refine v_callX (bc2 := 0) (bs2 := 0) (As := [.int (ii a1), .int (ii a2)]) dL_pile_5 lk_L_34 rfl rfl h0 (by decide) rfl hC (by decide) (Nat.le_of_ble_eq_true rfl) hno ?_ ?_ rfl rfl ?_
  · intro E S3 I3 X3 h
    obtain ⟨q1, rfl, rfl, rfl⟩ := h
    refine ⟨hno2, ?_⟩
    rcases hr with ⟨z, hr⟩ | hr | hr
    · rw [hr] at q1; cases q1
    · rw [hr] at q1; cases q1
      exact ⟨1, hd_L_pile_1, rfl, rfl, 1, rfl, Or.inr (Or.inl ⟨hr, rfl⟩)⟩
    · rw [hr] at q1; cases q1
      exact ⟨2, hd_L_pile_2, rfl, rfl, 2, rfl, Or.inr (Or.inr ⟨hr, rfl⟩)⟩
  · intro v S3 I3 X3 h
    obtain ⟨_, rfl, _, _⟩ := h
    exact hno2
  · intro v S3 I3 X3 h
    obtain ⟨q1, rfl, rfl, rfl⟩ := h
    rcases hr with ⟨z, hr⟩ | hr | hr
    · have hr2 := hr
      rw [← ii_wr z] at hr2
      rw [hr2] at q1; cases q1
      have hw := wr_rng z
      refine v_i2l dL_pile_8 ?_
      refine v_last (j := 0) dL_pile_9 h541 rfl (by decide) ?_
      refine v_goto (tgt := 21) dL_pile_10 (by decide) ?_
      refine v_iconst dL_pile_21 ?_
      exact v_iret dL_pile_22 rfl ⟨rfl, rfl, 0, rfl, Or.inl ⟨z, hr, rfl, upL_p rfl⟩⟩ (fun h => absurd (hno2.symm.trans h) (by decide))
    · rw [hr] at q1; cases q1
    · rw [hr] at q1; cases q1

set_option maxRecDepth 100000 in
set_option maxHeartbeats 4000000 in
theorem h_character {l : Launch} {g : GV} {S S2 : SS} {I : II} {X : XX} {r : RR} {a1 a2 : Int} (hfl : l.stackTraces = false) (hno : S.2.2 = false) (hno2 : S2.2.2 = false) (h0 : S.1[0]? = some (8, 14)) (h541 : S2.1[541]? = some (24, 1)) (hC : CT l g mX8_character 6 1 6 [.ref 0, .int (ii a1), .int (ii a2)] S I X (QT r S2 X)) (hr : R1 IOB r) : CT l g mL_character 8 1 6 [.ref 0, .int (ii a1), .int (ii a2), .ref 541] S I X (LQ1 IOB r S2) := by
  refine v_startH hfl (by decide) (by decide) (Nat.le_of_ble_eq_true rfl) (ls := [some (.ref 0), some (.int (ii a1)), some (.int (ii a2)), some (.ref 541), none]) rfl ?_
  refine v_aload_n dL_character_0 rfl ?_
  refine v_iconst dL_character_1 ?_
  refine v_aload_n dL_character_2 rfl ?_
  refine v_iload_n dL_character_3 rfl ?_
  refine v_iload_n dL_character_4 rfl ?_
  refine v_callX (bc2 := 0) (bs2 := 0) (As := [.int (ii a1), .int (ii a2)]) dL_character_5 lk_L_37 rfl rfl h0 (by decide) rfl hC (by decide) (Nat.le_of_ble_eq_true rfl) hno ?_ ?_ rfl rfl ?_
  · intro E S3 I3 X3 h
    obtain ⟨q1, rfl, rfl, rfl⟩ := h
    refine ⟨hno2, ?_⟩
    rcases hr with ⟨z, hr⟩ | hr
    · rw [hr] at q1; cases q1
    · rw [hr] at q1; cases q1
      exact ⟨1, hd_L_character_1, rfl, rfl, 1, rfl, Or.inr ⟨hr, rfl⟩⟩
  · intro v S3 I3 X3 h
    obtain ⟨_, rfl, _, _⟩ := h
    exact hno2
  · intro v S3 I3 X3 h
    obtain ⟨q1, rfl, rfl, rfl⟩ := h
    rcases hr with ⟨z, hr⟩ | hr
    · have hr2 := hr
      rw [← ii_wr z] at hr2
      rw [hr2] at q1; cases q1
      have hw := wr_rng z
      refine v_i2l dL_character_8 ?_
      refine v_last (j := 0) dL_character_9 h541 rfl (by decide) ?_
      refine v_goto (tgt := 17) dL_character_10 (by decide) ?_
      refine v_iconst dL_character_17 ?_
      exact v_iret dL_character_18 rfl ⟨rfl, rfl, 0, rfl, Or.inl ⟨z, hr, rfl, upL_p rfl⟩⟩ (fun h => absurd (hno2.symm.trans h) (by decide))
    · rw [hr] at q1; cases q1

set_option maxRecDepth 100000 in
set_option maxHeartbeats 4000000 in
theorem h_votes {l : Launch} {g : GV} {S S2 : SS} {I : II} {X : XX} {r : RR} {a1 a2 : Int} (hfl : l.stackTraces = false) (hno : S.2.2 = false) (hno2 : S2.2.2 = false) (h0 : S.1[0]? = some (8, 14)) (h541 : S2.1[541]? = some (24, 1)) (hC : CT l g mX8_votes 7 1 6 [.ref 0, .int (ii a1), .int (ii a2)] S I X (QT r S2 X)) (hr : R1 IOB r) : CT l g mL_votes 8 1 6 [.ref 0, .int (ii a1), .int (ii a2), .ref 541] S I X (LQ1 IOB r S2) := by
  refine v_startH hfl (by decide) (by decide) (Nat.le_of_ble_eq_true rfl) (ls := [some (.ref 0), some (.int (ii a1)), some (.int (ii a2)), some (.ref 541), none]) rfl ?_
  refine v_aload_n dL_votes_0 rfl ?_
  refine v_iconst dL_votes_1 ?_
  refine v_aload_n dL_votes_2 rfl ?_
  refine v_iload_n dL_votes_3 rfl ?_
  refine v_iload_n dL_votes_4 rfl ?_
  refine v_callX (bc2 := 0) (bs2 := 0) (As := [.int (ii a1), .int (ii a2)]) dL_votes_5 lk_L_40 rfl rfl h0 (by decide) rfl hC (by decide) (Nat.le_of_ble_eq_true rfl) hno ?_ ?_ rfl rfl ?_
  · intro E S3 I3 X3 h
    obtain ⟨q1, rfl, rfl, rfl⟩ := h
    refine ⟨hno2, ?_⟩
    rcases hr with ⟨z, hr⟩ | hr
    · rw [hr] at q1; cases q1
    · rw [hr] at q1; cases q1
      exact ⟨1, hd_L_votes_1, rfl, rfl, 1, rfl, Or.inr ⟨hr, rfl⟩⟩
  · intro v S3 I3 X3 h
    obtain ⟨_, rfl, _, _⟩ := h
    exact hno2
  · intro v S3 I3 X3 h
    obtain ⟨q1, rfl, rfl, rfl⟩ := h
    rcases hr with ⟨z, hr⟩ | hr
    · have hr2 := hr
      rw [← ii_wr z] at hr2
      rw [hr2] at q1; cases q1
      have hw := wr_rng z
      refine v_i2l dL_votes_8 ?_
      refine v_last (j := 0) dL_votes_9 h541 rfl (by decide) ?_
      refine v_goto (tgt := 17) dL_votes_10 (by decide) ?_
      refine v_iconst dL_votes_17 ?_
      exact v_iret dL_votes_18 rfl ⟨rfl, rfl, 0, rfl, Or.inl ⟨z, hr, rfl, upL_p rfl⟩⟩ (fun h => absurd (hno2.symm.trans h) (by decide))
    · rw [hr] at q1; cases q1

set_option maxRecDepth 100000 in
set_option maxHeartbeats 4000000 in
theorem h_round {l : Launch} {g : GV} {S S2 : SS} {I : II} {X : XX} {r : RR} {a1 a2 : Int} (hfl : l.stackTraces = false) (hno : S.2.2 = false) (hno2 : S2.2.2 = false) (h0 : S.1[0]? = some (8, 14)) (h541 : S2.1[541]? = some (24, 1)) (hC : CT l g mX8_round 6 1 6 [.ref 0, .int (ii a1), .int (ii a2)] S I X (QT r S2 X)) (hr : R2 IOB IAE r) : CT l g mL_round 8 1 6 [.ref 0, .int (ii a1), .int (ii a2), .ref 541] S I X (LQ2 IOB IAE r S2) := by
  refine v_startH hfl (by decide) (by decide) (Nat.le_of_ble_eq_true rfl) (ls := [some (.ref 0), some (.int (ii a1)), some (.int (ii a2)), some (.ref 541), none]) rfl ?_
  refine v_aload_n dL_round_0 rfl ?_
  refine v_iconst dL_round_1 ?_
  refine v_aload_n dL_round_2 rfl ?_
  refine v_iload_n dL_round_3 rfl ?_
  refine v_iload_n dL_round_4 rfl ?_
  refine v_callX (bc2 := 0) (bs2 := 0) (As := [.int (ii a1), .int (ii a2)]) dL_round_5 lk_L_43 rfl rfl h0 (by decide) rfl hC (by decide) (Nat.le_of_ble_eq_true rfl) hno ?_ ?_ rfl rfl ?_
  · intro E S3 I3 X3 h
    obtain ⟨q1, rfl, rfl, rfl⟩ := h
    refine ⟨hno2, ?_⟩
    rcases hr with ⟨z, hr⟩ | hr | hr
    · rw [hr] at q1; cases q1
    · rw [hr] at q1; cases q1
      exact ⟨1, hd_L_round_1, rfl, rfl, 1, rfl, Or.inr (Or.inl ⟨hr, rfl⟩)⟩
    · rw [hr] at q1; cases q1
      exact ⟨2, hd_L_round_2, rfl, rfl, 2, rfl, Or.inr (Or.inr ⟨hr, rfl⟩)⟩
  · intro v S3 I3 X3 h
    obtain ⟨_, rfl, _, _⟩ := h
    exact hno2
  · intro v S3 I3 X3 h
    obtain ⟨q1, rfl, rfl, rfl⟩ := h
    rcases hr with ⟨z, hr⟩ | hr | hr
    · have hr2 := hr
      rw [← ii_wr z] at hr2
      rw [hr2] at q1; cases q1
      have hw := wr_rng z
      refine v_i2l dL_round_8 ?_
      refine v_last (j := 0) dL_round_9 h541 rfl (by decide) ?_
      refine v_goto (tgt := 21) dL_round_10 (by decide) ?_
      refine v_iconst dL_round_21 ?_
      exact v_iret dL_round_22 rfl ⟨rfl, rfl, 0, rfl, Or.inl ⟨z, hr, rfl, upL_p rfl⟩⟩ (fun h => absurd (hno2.symm.trans h) (by decide))
    · rw [hr] at q1; cases q1
    · rw [hr] at q1; cases q1

set_option maxRecDepth 100000 in
set_option maxHeartbeats 4000000 in
theorem h_candidate {l : Launch} {g : GV} {S S2 : SS} {I : II} {X : XX} {r : RR} {a1 a2 : Int} (hfl : l.stackTraces = false) (hno : S.2.2 = false) (hno2 : S2.2.2 = false) (h0 : S.1[0]? = some (8, 14)) (h541 : S2.1[541]? = some (24, 1)) (hC : CT l g mX8_candidate 6 1 6 [.ref 0, .int (ii a1), .int (ii a2)] S I X (QT r S2 X)) (hr : R2 IOB IAE r) : CT l g mL_candidate 8 1 6 [.ref 0, .int (ii a1), .int (ii a2), .ref 541] S I X (LQ2 IOB IAE r S2) := by
  refine v_startH hfl (by decide) (by decide) (Nat.le_of_ble_eq_true rfl) (ls := [some (.ref 0), some (.int (ii a1)), some (.int (ii a2)), some (.ref 541), none]) rfl ?_
  refine v_aload_n dL_candidate_0 rfl ?_
  refine v_iconst dL_candidate_1 ?_
  refine v_aload_n dL_candidate_2 rfl ?_
  refine v_iload_n dL_candidate_3 rfl ?_
  refine v_iload_n dL_candidate_4 rfl ?_
  refine v_callX (bc2 := 0) (bs2 := 0) (As := [.int (ii a1), .int (ii a2)]) dL_candidate_5 lk_L_46 rfl rfl h0 (by decide) rfl hC (by decide) (Nat.le_of_ble_eq_true rfl) hno ?_ ?_ rfl rfl ?_
  · intro E S3 I3 X3 h
    obtain ⟨q1, rfl, rfl, rfl⟩ := h
    refine ⟨hno2, ?_⟩
    rcases hr with ⟨z, hr⟩ | hr | hr
    · rw [hr] at q1; cases q1
    · rw [hr] at q1; cases q1
      exact ⟨1, hd_L_candidate_1, rfl, rfl, 1, rfl, Or.inr (Or.inl ⟨hr, rfl⟩)⟩
    · rw [hr] at q1; cases q1
      exact ⟨2, hd_L_candidate_2, rfl, rfl, 2, rfl, Or.inr (Or.inr ⟨hr, rfl⟩)⟩
  · intro v S3 I3 X3 h
    obtain ⟨_, rfl, _, _⟩ := h
    exact hno2
  · intro v S3 I3 X3 h
    obtain ⟨q1, rfl, rfl, rfl⟩ := h
    rcases hr with ⟨z, hr⟩ | hr | hr
    · have hr2 := hr
      rw [← ii_wr z] at hr2
      rw [hr2] at q1; cases q1
      have hw := wr_rng z
      refine v_i2l dL_candidate_8 ?_
      refine v_last (j := 0) dL_candidate_9 h541 rfl (by decide) ?_
      refine v_goto (tgt := 21) dL_candidate_10 (by decide) ?_
      refine v_iconst dL_candidate_21 ?_
      exact v_iret dL_candidate_22 rfl ⟨rfl, rfl, 0, rfl, Or.inl ⟨z, hr, rfl, upL_p rfl⟩⟩ (fun h => absurd (hno2.symm.trans h) (by decide))
    · rw [hr] at q1; cases q1
    · rw [hr] at q1; cases q1

set_option maxRecDepth 100000 in
set_option maxHeartbeats 4000000 in
theorem h_elected {l : Launch} {g : GV} {S S2 : SS} {I : II} {X : XX} {r : RR} {a1 : Int} (hfl : l.stackTraces = false) (hno : S.2.2 = false) (hno2 : S2.2.2 = false) (h0 : S.1[0]? = some (8, 14)) (h541 : S2.1[541]? = some (24, 1)) (hC : CT l g mX8_elected 6 1 6 [.ref 0, .int (ii a1)] S I X (QT r S2 X)) (hr : R1 NSE r) : CT l g mL_elected 8 1 6 [.ref 0, .int (ii a1), .ref 541] S I X (LQ1 NSE r S2) := by
  refine v_startH hfl (by decide) (by decide) (Nat.le_of_ble_eq_true rfl) (ls := [some (.ref 0), some (.int (ii a1)), some (.ref 541), none]) rfl ?_
  refine v_aload_n dL_elected_0 rfl ?_
  refine v_iconst dL_elected_1 ?_
  refine v_aload_n dL_elected_2 rfl ?_
  refine v_iload_n dL_elected_3 rfl ?_
  refine v_callX (bc2 := 0) (bs2 := 0) (As := [.int (ii a1)]) dL_elected_4 lk_L_49 rfl rfl h0 (by decide) rfl hC (by decide) (Nat.le_of_ble_eq_true rfl) hno ?_ ?_ rfl rfl ?_
  · intro E S3 I3 X3 h
    obtain ⟨q1, rfl, rfl, rfl⟩ := h
    refine ⟨hno2, ?_⟩
    rcases hr with ⟨z, hr⟩ | hr
    · rw [hr] at q1; cases q1
    · rw [hr] at q1; cases q1
      exact ⟨1, hd_L_elected_1, rfl, rfl, 1, rfl, Or.inr ⟨hr, rfl⟩⟩
  · intro v S3 I3 X3 h
    obtain ⟨_, rfl, _, _⟩ := h
    exact hno2
  · intro v S3 I3 X3 h
    obtain ⟨q1, rfl, rfl, rfl⟩ := h
    rcases hr with ⟨z, hr⟩ | hr
    · have hr2 := hr
      rw [← ii_wr z] at hr2
      rw [hr2] at q1; cases q1
      have hw := wr_rng z
      refine v_i2l dL_elected_7 ?_
      refine v_last (j := 0) dL_elected_8 h541 rfl (by decide) ?_
      refine v_goto (tgt := 15) dL_elected_9 (by decide) ?_
      refine v_iconst dL_elected_15 ?_
      exact v_iret dL_elected_16 rfl ⟨rfl, rfl, 0, rfl, Or.inl ⟨z, hr, rfl, upL_p rfl⟩⟩ (fun h => absurd (hno2.symm.trans h) (by decide))
    · rw [hr] at q1; cases q1

set_option maxRecDepth 100000 in
set_option maxHeartbeats 4000000 in
theorem h_where {l : Launch} {g : GV} {S S2 : SS} {I : II} {X : XX} {r : RR} {a1 a2 a3 : Int} (hfl : l.stackTraces = false) (hno : S.2.2 = false) (hno2 : S2.2.2 = false) (h0 : S.1[0]? = some (8, 14)) (h541 : S2.1[541]? = some (24, 1)) (hC : CT l g mX8_where 6 1 6 [.ref 0, .int (ii a1), .int (ii a2), .int (ii a3)] S I X (QT r S2 X)) (hr : R2 IOB IAE r) : CT l g mL_where 8 1 6 [.ref 0, .int (ii a1), .int (ii a2), .int (ii a3), .ref 541] S I X (LQ2 IOB IAE r S2) := by
  refine v_startH hfl (by decide) (by decide) (Nat.le_of_ble_eq_true rfl) (ls := [some (.ref 0), some (.int (ii a1)), some (.int (ii a2)), some (.int (ii a3)), some (.ref 541), none]) rfl ?_
  refine v_aload dL_where_0 rfl ?_
  refine v_iconst dL_where_2 ?_
  refine v_aload_n dL_where_3 rfl ?_
  refine v_iload_n dL_where_4 rfl ?_
  refine v_iload_n dL_where_5 rfl ?_
  refine v_iload_n dL_where_6 rfl ?_
  refine v_callX (bc2 := 0) (bs2 := 0) (As := [.int (ii a1), .int (ii a2), .int (ii a3)]) dL_where_7 lk_L_54 rfl rfl h0 (by decide) rfl hC (by decide) (Nat.le_of_ble_eq_true rfl) hno ?_ ?_ rfl rfl ?_
  · intro E S3 I3 X3 h
    obtain ⟨q1, rfl, rfl, rfl⟩ := h
    refine ⟨hno2, ?_⟩
    rcases hr with ⟨z, hr⟩ | hr | hr
    · rw [hr] at q1; cases q1
    · rw [hr] at q1; cases q1
      exact ⟨1, hd_L_where_1, rfl, rfl, 1, rfl, Or.inr (Or.inl ⟨hr, rfl⟩)⟩
    · rw [hr] at q1; cases q1
      exact ⟨2, hd_L_where_2, rfl, rfl, 2, rfl, Or.inr (Or.inr ⟨hr, rfl⟩)⟩
  · intro v S3 I3 X3 h
    obtain ⟨_, rfl, _, _⟩ := h
    exact hno2
  · intro v S3 I3 X3 h
    obtain ⟨q1, rfl, rfl, rfl⟩ := h
    rcases hr with ⟨z, hr⟩ | hr | hr
    · have hr2 := hr
      rw [← ii_wr z] at hr2
      rw [hr2] at q1; cases q1
      have hw := wr_rng z
      refine v_i2l dL_where_10 ?_
      refine v_last (j := 0) dL_where_11 h541 rfl (by decide) ?_
      refine v_goto (tgt := 23) dL_where_12 (by decide) ?_
      refine v_iconst dL_where_23 ?_
      exact v_iret dL_where_24 rfl ⟨rfl, rfl, 0, rfl, Or.inl ⟨z, hr, rfl, upL_p rfl⟩⟩ (fun h => absurd (hno2.symm.trans h) (by decide))
    · rw [hr] at q1; cases q1
    · rw [hr] at q1; cases q1

set_option maxRecDepth 100000 in
set_option maxHeartbeats 4000000 in
theorem h_share {l : Launch} {g : GV} {S S2 : SS} {I : II} {X : XX} {r : RR} {a1 a2 : Int} (hfl : l.stackTraces = false) (hno : S.2.2 = false) (hno2 : S2.2.2 = false) (h0 : S.1[0]? = some (8, 14)) (h541 : S2.1[542]? = some (25, 1)) (hC : CT l g mX8_share 7 2 12 [.ref 0, .int (ii a1), .int (ii a2)] S I X (QT r S2 X)) (hr : RF IOB ARI r) : CT l g mL_share 8 2 12 [.ref 0, .int (ii a1), .int (ii a2), .ref 542] S I X (LQF IOB ARI r S2) := by
  refine v_startH hfl (by decide) (by decide) (Nat.le_of_ble_eq_true rfl) (ls := [some (.ref 0), some (.int (ii a1)), some (.int (ii a2)), some (.ref 542), none]) rfl ?_
  refine v_aload_n dL_share_0 rfl ?_
  refine v_iconst dL_share_1 ?_
  refine v_aload_n dL_share_2 rfl ?_
  refine v_iload_n dL_share_3 rfl ?_
  refine v_iload_n dL_share_4 rfl ?_
  refine v_callX (bc2 := 0) (bs2 := 0) (As := [.int (ii a1), .int (ii a2)]) dL_share_5 lk_L_58 rfl rfl h0 (by decide) rfl hC (by decide) (Nat.le_of_ble_eq_true rfl) hno ?_ ?_ rfl rfl ?_
  · intro E S3 I3 X3 h
    obtain ⟨q1, rfl, rfl, rfl⟩ := h
    refine ⟨hno2, ?_⟩
    rcases hr with ⟨u, hu, hr⟩ | hr | hr
    · rw [hr] at q1; cases q1
    · rw [hr] at q1; cases q1
      exact ⟨1, hd_L_share_1, rfl, rfl, 1, rfl, Or.inr (Or.inl ⟨hr, rfl⟩)⟩
    · rw [hr] at q1; cases q1
      exact ⟨2, hd_L_share_2, rfl, rfl, 2, rfl, Or.inr (Or.inr ⟨hr, rfl⟩)⟩
  · intro v S3 I3 X3 h
    obtain ⟨_, rfl, _, _⟩ := h
    exact hno2
  · intro v S3 I3 X3 h
    obtain ⟨q1, rfl, rfl, rfl⟩ := h
    rcases hr with ⟨u, hu, hr⟩ | hr | hr
    · rw [hr] at q1; cases q1
      refine v_f2d dL_share_8 hu ?_
      refine v_dast (j := 0) dL_share_9 h541 rfl (by decide) ?_
      refine v_goto (tgt := 21) dL_share_10 (by decide) ?_
      refine v_iconst dL_share_21 ?_
      exact v_iret dL_share_22 rfl ⟨rfl, rfl, 0, rfl, Or.inl ⟨u, hr, rfl, upD_p rfl⟩⟩ (fun h => absurd (hno2.symm.trans h) (by decide))
    · rw [hr] at q1; cases q1
    · rw [hr] at q1; cases q1

set_option maxRecDepth 100000 in
set_option maxHeartbeats 4000000 in
theorem h_preferring {l : Launch} {g : GV} {S S2 : SS} {I : II} {X : XX} {r : RR} {a1 a2 : Int} (hfl : l.stackTraces = false) (hno : S.2.2 = false) (hno2 : S2.2.2 = false) (h0 : S.1[0]? = some (8, 14)) (h541 : S2.1[541]? = some (24, 1)) (hC : CT l g mX8_preferring 6 1 6 [.ref 0, .int (ii a1), .int (ii a2)] S I X (QT r S2 X)) (hr : R1 IOB r) : CT l g mL_preferring 8 1 6 [.ref 0, .int (ii a1), .int (ii a2), .ref 541] S I X (LQ1 IOB r S2) := by
  refine v_startH hfl (by decide) (by decide) (Nat.le_of_ble_eq_true rfl) (ls := [some (.ref 0), some (.int (ii a1)), some (.int (ii a2)), some (.ref 541), none]) rfl ?_
  refine v_aload_n dL_preferring_0 rfl ?_
  refine v_iconst dL_preferring_1 ?_
  refine v_aload_n dL_preferring_2 rfl ?_
  refine v_iload_n dL_preferring_3 rfl ?_
  refine v_iload_n dL_preferring_4 rfl ?_
  refine v_callX (bc2 := 0) (bs2 := 0) (As := [.int (ii a1), .int (ii a2)]) dL_preferring_5 lk_L_64 rfl rfl h0 (by decide) rfl hC (by decide) (Nat.le_of_ble_eq_true rfl) hno ?_ ?_ rfl rfl ?_
  · intro E S3 I3 X3 h
    obtain ⟨q1, rfl, rfl, rfl⟩ := h
    refine ⟨hno2, ?_⟩
    rcases hr with ⟨z, hr⟩ | hr
    · rw [hr] at q1; cases q1
    · rw [hr] at q1; cases q1
      exact ⟨1, hd_L_preferring_1, rfl, rfl, 1, rfl, Or.inr ⟨hr, rfl⟩⟩
  · intro v S3 I3 X3 h
    obtain ⟨_, rfl, _, _⟩ := h
    exact hno2
  · intro v S3 I3 X3 h
    obtain ⟨q1, rfl, rfl, rfl⟩ := h
    rcases hr with ⟨z, hr⟩ | hr
    · have hr2 := hr
      rw [← ii_wr z] at hr2
      rw [hr2] at q1; cases q1
      have hw := wr_rng z
      refine v_i2l dL_preferring_8 ?_
      refine v_last (j := 0) dL_preferring_9 h541 rfl (by decide) ?_
      refine v_goto (tgt := 17) dL_preferring_10 (by decide) ?_
      refine v_iconst dL_preferring_17 ?_
      exact v_iret dL_preferring_18 rfl ⟨rfl, rfl, 0, rfl, Or.inl ⟨z, hr, rfl, upL_p rfl⟩⟩ (fun h => absurd (hno2.symm.trans h) (by decide))
    · rw [hr] at q1; cases q1

set_option maxRecDepth 100000 in
set_option maxHeartbeats 4000000 in
theorem h_points {l : Launch} {g : GV} {S S2 : SS} {I : II} {X : XX} {r : RR} {a1 : Int} (hfl : l.stackTraces = false) (hno : S.2.2 = false) (hno2 : S2.2.2 = false) (h0 : S.1[0]? = some (8, 14)) (h541 : S2.1[541]? = some (24, 1)) (hC : CT l g mX8_points 6 1 6 [.ref 0, .int (ii a1)] S I X (QT r S2 X)) (hr : R1 IOB r) : CT l g mL_points 8 1 6 [.ref 0, .int (ii a1), .ref 541] S I X (LQ1 IOB r S2) := by
  refine v_startH hfl (by decide) (by decide) (Nat.le_of_ble_eq_true rfl) (ls := [some (.ref 0), some (.int (ii a1)), some (.ref 541), none]) rfl ?_
  refine v_aload_n dL_points_0 rfl ?_
  refine v_iconst dL_points_1 ?_
  refine v_aload_n dL_points_2 rfl ?_
  refine v_iload_n dL_points_3 rfl ?_
  refine v_callX (bc2 := 0) (bs2 := 0) (As := [.int (ii a1)]) dL_points_4 lk_L_67 rfl rfl h0 (by decide) rfl hC (by decide) (Nat.le_of_ble_eq_true rfl) hno ?_ ?_ rfl rfl ?_
  · intro E S3 I3 X3 h
    obtain ⟨q1, rfl, rfl, rfl⟩ := h
    refine ⟨hno2, ?_⟩
    rcases hr with ⟨z, hr⟩ | hr
    · rw [hr] at q1; cases q1
    · rw [hr] at q1; cases q1
      exact ⟨1, hd_L_points_1, rfl, rfl, 1, rfl, Or.inr ⟨hr, rfl⟩⟩
  · intro v S3 I3 X3 h
    obtain ⟨_, rfl, _, _⟩ := h
    exact hno2
  · intro v S3 I3 X3 h
    obtain ⟨q1, rfl, rfl, rfl⟩ := h
    rcases hr with ⟨z, hr⟩ | hr
    · have hr2 := hr
      rw [← ii_wr z] at hr2
      rw [hr2] at q1; cases q1
      have hw := wr_rng z
      refine v_i2l dL_points_7 ?_
      refine v_last (j := 0) dL_points_8 h541 rfl (by decide) ?_
      refine v_goto (tgt := 15) dL_points_9 (by decide) ?_
      refine v_iconst dL_points_15 ?_
      exact v_iret dL_points_16 rfl ⟨rfl, rfl, 0, rfl, Or.inl ⟨z, hr, rfl, upL_p rfl⟩⟩ (fun h => absurd (hno2.symm.trans h) (by decide))
    · rw [hr] at q1; cases q1

set_option maxRecDepth 100000 in
set_option maxHeartbeats 4000000 in
theorem h_recount {l : Launch} {g : GV} {S S2 : SS} {I : II} {X : XX} {r : RR} {a1 : Int} (hfl : l.stackTraces = false) (hno : S.2.2 = false) (hno2 : S2.2.2 = false) (h0 : S.1[0]? = some (8, 14)) (h541 : S2.1[541]? = some (24, 1)) (hC : CT l g mX8_recount 6 1 6 [.ref 0, .int (ii a1)] S I X (QT r S2 X)) (hr : R2 IAE ISE r) : CT l g mL_recount 8 1 6 [.ref 0, .int (ii a1), .ref 541] S I X (LQ2 IAE ISE r S2) := by
  refine v_startH hfl (by decide) (by decide) (Nat.le_of_ble_eq_true rfl) (ls := [some (.ref 0), some (.int (ii a1)), some (.ref 541), none]) rfl ?_
  refine v_aload_n dL_recount_0 rfl ?_
  refine v_iconst dL_recount_1 ?_
  refine v_aload_n dL_recount_2 rfl ?_
  refine v_iload_n dL_recount_3 rfl ?_
  refine v_callX (bc2 := 0) (bs2 := 0) (As := [.int (ii a1)]) dL_recount_4 lk_L_70 rfl rfl h0 (by decide) rfl hC (by decide) (Nat.le_of_ble_eq_true rfl) hno ?_ ?_ rfl rfl ?_
  · intro E S3 I3 X3 h
    obtain ⟨q1, rfl, rfl, rfl⟩ := h
    refine ⟨hno2, ?_⟩
    rcases hr with ⟨z, hr⟩ | hr | hr
    · rw [hr] at q1; cases q1
    · rw [hr] at q1; cases q1
      exact ⟨1, hd_L_recount_1, rfl, rfl, 1, rfl, Or.inr (Or.inl ⟨hr, rfl⟩)⟩
    · rw [hr] at q1; cases q1
      exact ⟨2, hd_L_recount_2, rfl, rfl, 2, rfl, Or.inr (Or.inr ⟨hr, rfl⟩)⟩
  · intro v S3 I3 X3 h
    obtain ⟨_, rfl, _, _⟩ := h
    exact hno2
  · intro v S3 I3 X3 h
    obtain ⟨q1, rfl, rfl, rfl⟩ := h
    rcases hr with ⟨z, hr⟩ | hr | hr
    · have hr2 := hr
      rw [← ii_wr z] at hr2
      rw [hr2] at q1; cases q1
      have hw := wr_rng z
      refine v_i2l dL_recount_7 ?_
      refine v_last (j := 0) dL_recount_8 h541 rfl (by decide) ?_
      refine v_goto (tgt := 18) dL_recount_9 (by decide) ?_
      refine v_iconst dL_recount_18 ?_
      exact v_iret dL_recount_19 rfl ⟨rfl, rfl, 0, rfl, Or.inl ⟨z, hr, rfl, upL_p rfl⟩⟩ (fun h => absurd (hno2.symm.trans h) (by decide))
    · rw [hr] at q1; cases q1
    · rw [hr] at q1; cases q1

set_option maxRecDepth 100000 in
set_option maxHeartbeats 4000000 in
theorem h_needed {l : Launch} {g : GV} {S S2 : SS} {I : II} {X : XX} {r : RR} {a1 : Int} (hfl : l.stackTraces = false) (hno : S.2.2 = false) (hno2 : S2.2.2 = false) (h0 : S.1[0]? = some (8, 14)) (h541 : S2.1[541]? = some (24, 1)) (hC : CT l g mX8_needed 6 1 6 [.ref 0, .int (ii a1)] S I X (QT r S2 X)) (hr : R1 IOB r) : CT l g mL_needed 8 1 6 [.ref 0, .int (ii a1), .ref 541] S I X (LQ1 IOB r S2) := by
  refine v_startH hfl (by decide) (by decide) (Nat.le_of_ble_eq_true rfl) (ls := [some (.ref 0), some (.int (ii a1)), some (.ref 541), none]) rfl ?_
  refine v_aload_n dL_needed_0 rfl ?_
  refine v_iconst dL_needed_1 ?_
  refine v_aload_n dL_needed_2 rfl ?_
  refine v_iload_n dL_needed_3 rfl ?_
  refine v_callX (bc2 := 0) (bs2 := 0) (As := [.int (ii a1)]) dL_needed_4 lk_L_73 rfl rfl h0 (by decide) rfl hC (by decide) (Nat.le_of_ble_eq_true rfl) hno ?_ ?_ rfl rfl ?_
  · intro E S3 I3 X3 h
    obtain ⟨q1, rfl, rfl, rfl⟩ := h
    refine ⟨hno2, ?_⟩
    rcases hr with ⟨z, hr⟩ | hr
    · rw [hr] at q1; cases q1
    · rw [hr] at q1; cases q1
      exact ⟨1, hd_L_needed_1, rfl, rfl, 1, rfl, Or.inr ⟨hr, rfl⟩⟩
  · intro v S3 I3 X3 h
    obtain ⟨_, rfl, _, _⟩ := h
    exact hno2
  · intro v S3 I3 X3 h
    obtain ⟨q1, rfl, rfl, rfl⟩ := h
    rcases hr with ⟨z, hr⟩ | hr
    · have hr2 := hr
      rw [← ii_wr z] at hr2
      rw [hr2] at q1; cases q1
      have hw := wr_rng z
      refine v_i2l dL_needed_7 ?_
      refine v_last (j := 0) dL_needed_8 h541 rfl (by decide) ?_
      refine v_goto (tgt := 15) dL_needed_9 (by decide) ?_
      refine v_iconst dL_needed_15 ?_
      exact v_iret dL_needed_16 rfl ⟨rfl, rfl, 0, rfl, Or.inl ⟨z, hr, rfl, upL_p rfl⟩⟩ (fun h => absurd (hno2.symm.trans h) (by decide))
    · rw [hr] at q1; cases q1

set_option maxRecDepth 100000 in
set_option maxHeartbeats 4000000 in
theorem h_undo {l : Launch} {g : GV} {S S2 : SS} {I : II} {X : XX} {r : RR} (hfl : l.stackTraces = false) (hno : S.2.2 = false) (hno2 : S2.2.2 = false) (h0 : S.1[0]? = some (8, 14)) (h541 : S2.1[541]? = some (24, 1)) (hC : CT l g mX8_undo 6 1 6 [.ref 0] S I X (QT r S2 X)) (hr : R1 ISE r) : CT l g mL_undo 8 1 6 [.ref 0, .ref 541] S I X (LQ1 ISE r S2) := by
  refine v_startH hfl (by decide) (by decide) (Nat.le_of_ble_eq_true rfl) (ls := [some (.ref 0), some (.ref 541), none]) rfl ?_
  refine v_aload_n dL_undo_0 rfl ?_
  refine v_iconst dL_undo_1 ?_
  refine v_aload_n dL_undo_2 rfl ?_
  refine v_callX (bc2 := 0) (bs2 := 0) (As := []) dL_undo_3 lk_L_76 rfl rfl h0 (by decide) rfl hC (by decide) (Nat.le_of_ble_eq_true rfl) hno ?_ ?_ rfl rfl ?_
  · intro E S3 I3 X3 h
    obtain ⟨q1, rfl, rfl, rfl⟩ := h
    refine ⟨hno2, ?_⟩
    rcases hr with ⟨z, hr⟩ | hr
    · rw [hr] at q1; cases q1
    · rw [hr] at q1; cases q1
      exact ⟨1, hd_L_undo_1, rfl, rfl, 1, rfl, Or.inr ⟨hr, rfl⟩⟩
  · intro v S3 I3 X3 h
    obtain ⟨_, rfl, _, _⟩ := h
    exact hno2
  · intro v S3 I3 X3 h
    obtain ⟨q1, rfl, rfl, rfl⟩ := h
    rcases hr with ⟨z, hr⟩ | hr
    · have hr2 := hr
      rw [← ii_wr z] at hr2
      rw [hr2] at q1; cases q1
      have hw := wr_rng z
      refine v_i2l dL_undo_6 ?_
      refine v_last (j := 0) dL_undo_7 h541 rfl (by decide) ?_
      refine v_goto (tgt := 14) dL_undo_8 (by decide) ?_
      refine v_iconst dL_undo_14 ?_
      exact v_iret dL_undo_15 rfl ⟨rfl, rfl, 0, rfl, Or.inl ⟨z, hr, rfl, upL_p rfl⟩⟩ (fun h => absurd (hno2.symm.trans h) (by decide))
    · rw [hr] at q1; cases q1

set_option maxRecDepth 100000 in
set_option maxHeartbeats 4000000 in
theorem h_restore {l : Launch} {g : GV} {S S2 : SS} {I : II} {X : XX} {r : RR} (hfl : l.stackTraces = false) (hno : S.2.2 = false) (hno2 : S2.2.2 = false) (h0 : S.1[0]? = some (8, 14)) (h541 : S2.1[541]? = some (24, 1)) (hC : CT l g mX8_restore 6 1 6 [.ref 0] S I X (QT r S2 X)) (hr : R1 ISE r) : CT l g mL_restore 8 1 6 [.ref 0, .ref 541] S I X (LQ1 ISE r S2) := by
  refine v_startH hfl (by decide) (by decide) (Nat.le_of_ble_eq_true rfl) (ls := [some (.ref 0), some (.ref 541), none]) rfl ?_
  refine v_aload_n dL_restore_0 rfl ?_
  refine v_iconst dL_restore_1 ?_
  refine v_aload_n dL_restore_2 rfl ?_
  refine v_callX (bc2 := 0) (bs2 := 0) (As := []) dL_restore_3 lk_L_79 rfl rfl h0 (by decide) rfl hC (by decide) (Nat.le_of_ble_eq_true rfl) hno ?_ ?_ rfl rfl ?_
  · intro E S3 I3 X3 h
    obtain ⟨q1, rfl, rfl, rfl⟩ := h
    refine ⟨hno2, ?_⟩
    rcases hr with ⟨z, hr⟩ | hr
    · rw [hr] at q1; cases q1
    · rw [hr] at q1; cases q1
      exact ⟨1, hd_L_restore_1, rfl, rfl, 1, rfl, Or.inr ⟨hr, rfl⟩⟩
  · intro v S3 I3 X3 h
    obtain ⟨_, rfl, _, _⟩ := h
    exact hno2
  · intro v S3 I3 X3 h
    obtain ⟨q1, rfl, rfl, rfl⟩ := h
    rcases hr with ⟨z, hr⟩ | hr
    · have hr2 := hr
      rw [← ii_wr z] at hr2
      rw [hr2] at q1; cases q1
      have hw := wr_rng z
      refine v_i2l dL_restore_6 ?_
      refine v_last (j := 0) dL_restore_7 h541 rfl (by decide) ?_
      refine v_goto (tgt := 14) dL_restore_8 (by decide) ?_
      refine v_iconst dL_restore_14 ?_
      exact v_iret dL_restore_15 rfl ⟨rfl, rfl, 0, rfl, Or.inl ⟨z, hr, rfl, upL_p rfl⟩⟩ (fun h => absurd (hno2.symm.trans h) (by decide))
    · rw [hr] at q1; cases q1

set_option maxRecDepth 100000 in
set_option maxHeartbeats 4000000 in
theorem h_count {l : Launch} {g : GV} {S S2 : SS} {I : II} {X : XX} {r : RR} {a1 : Int} (hfl : l.stackTraces = false) (hno : S.2.2 = false) (hno2 : S2.2.2 = false) (h0 : S.1[0]? = some (8, 14)) (h541 : S2.1[541]? = some (24, 1)) (hC : CT l g mX8_count 6 1 6 [.ref 0, .int (ii a1)] S I X (QT r S2 X)) (hr : R1 IAE r) : CT l g mL_count 8 1 6 [.ref 0, .int (ii a1), .ref 541] S I X (LQ1 IAE r S2) := by
  refine v_startH hfl (by decide) (by decide) (Nat.le_of_ble_eq_true rfl) (ls := [some (.ref 0), some (.int (ii a1)), some (.ref 541), none]) rfl ?_
  refine v_aload_n dL_count_0 rfl ?_
  refine v_iconst dL_count_1 ?_
  refine v_aload_n dL_count_2 rfl ?_
  refine v_iload_n dL_count_3 rfl ?_
  refine v_callX (bc2 := 0) (bs2 := 0) (As := [.int (ii a1)]) dL_count_4 lk_L_82 rfl rfl h0 (by decide) rfl hC (by decide) (Nat.le_of_ble_eq_true rfl) hno ?_ ?_ rfl rfl ?_
  · intro E S3 I3 X3 h
    obtain ⟨q1, rfl, rfl, rfl⟩ := h
    refine ⟨hno2, ?_⟩
    rcases hr with ⟨z, hr⟩ | hr
    · rw [hr] at q1; cases q1
    · rw [hr] at q1; cases q1
      exact ⟨1, hd_L_count_1, rfl, rfl, 1, rfl, Or.inr ⟨hr, rfl⟩⟩
  · intro v S3 I3 X3 h
    obtain ⟨_, rfl, _, _⟩ := h
    exact hno2
  · intro v S3 I3 X3 h
    obtain ⟨q1, rfl, rfl, rfl⟩ := h
    rcases hr with ⟨z, hr⟩ | hr
    · have hr2 := hr
      rw [← ii_wr z] at hr2
      rw [hr2] at q1; cases q1
      have hw := wr_rng z
      refine v_i2l dL_count_7 ?_
      refine v_last (j := 0) dL_count_8 h541 rfl (by decide) ?_
      refine v_goto (tgt := 15) dL_count_9 (by decide) ?_
      refine v_iconst dL_count_15 ?_
      exact v_iret dL_count_16 rfl ⟨rfl, rfl, 0, rfl, Or.inl ⟨z, hr, rfl, upL_p rfl⟩⟩ (fun h => absurd (hno2.symm.trans h) (by decide))
    · rw [hr] at q1; cases q1
