/-! COUNTING: the whole count -/
theorem hopF_of {I J : II} {e : Nat} (h0 : J e = I e) : ∀ k, hopF J e k = hopF I e k
  | 0 => rfl
  | k + 1 => by
    unfold hopF standF
    rw [hopF_of h0 k, h0]
theorem CI_sc {I : II} {c e : Nat} (h : CI I c e) (hsp : e + 31 ≤ c) : CI (startCM I c e) c e := by
  have h0 : CI (up (up (up I c 10 0) c 11 0) (c + 1) 1 0) c e := CI_up (CI_up (CI_up h (by omega) (Or.inr (by omega)) hsp (fun _ _ => by omega) (fun q => by omega) (fun q => by omega) (fun q => by omega)) (by omega) (Or.inr (by omega)) hsp (fun _ _ => by omega) (fun q => by omega) (fun q => by omega) (fun q => by omega)) (by omega) (Or.inr (by omega)) hsp (fun q _ => by omega) (fun _ _ => by omega) (fun q => by omega) (fun q => by omega)
  have L : ∀ k, k ≤ 8 → CI (foldUp (stS I c e) (up (up (up I c 10 0) c 11 0) (c + 1) 1 0) k) c e := by
    intro k
    induction k with
    | zero => exact fun _ => h0
    | succ k ih =>
      intro hk
      have o := hopF_lt I e (k + 1) hk
      show CI (stS I c e k _) c e
      unfold stS
      refine CI_far (CI_far (CI_far (CI_far (CI_far (CI_up (ih (by omega)) (by omega) (Or.inr (by omega)) hsp (fun _ _ => by omega) (fun q => by omega) (fun q => by omega) (fun q => by omega)) hsp (by split <;> omega) (by omega) (by omega) (by omega) (by omega)) hsp (by omega) (by omega) (by omega) (by omega) (by omega)) hsp (by omega) (by omega) (by omega) (by omega) (by omega)) hsp (by omega) (by omega) (by omega) (by omega) (by omega)) hsp (by omega) (by omega) (by omega) (by omega) (by omega)
  exact L 8 (Nat.le_refl _)
theorem sc_e {I : II} {c e x : Nat} (h : x < c) : startCM I c e x = I x := stS_e h 8
theorem sumTo_b {f : Nat → Int} {n : Nat} (h : ∀ p, p < n → 0 ≤ f p ∧ f p ≤ 99) : ∀ k, k ≤ n → 0 ≤ sumTo f k ∧ sumTo f k ≤ 99 * k
  | 0, _ => by
    show 0 ≤ (0 : Int) ∧ (0 : Int) ≤ 99 * ((0 : Nat) : Int)
    decide
  | k + 1, hk => by
    have ih := sumTo_b h k (by omega)
    have hk1 := h k (by omega)
    show 0 ≤ sumTo f k + f k ∧ sumTo f k + f k ≤ 99 * ((k + 1 : Nat) : Int)
    omega
theorem CI_sp {I : II} {c e : Nat} (h : CI I c e) (hsp : e + 31 ≤ c) : CI (startPM I c e) c e := by
  obtain ⟨w0, w1, w2, w3, w4, w5, w6, w7, w8, w9, w10, w11, w12, w13, w14⟩ := id h.1
  obtain ⟨n, hn⟩ := Int.eq_ofNat_of_zero_le w2
  have hs := sumTo_b (f := I (e + 3)) (n := n) (fun p hp => w6 p (by omega)) n (Nat.le_refl _)
  have h0 : CI (spI I c e) c e := by
    unfold spI
    rw [hn]
    refine CI_up (CI_up (CI_up h ?_ (Or.inr (by omega)) hsp (fun _ q => by omega) (fun q => by omega) (fun q => by omega) (fun q => by omega)) (by omega) (Or.inr (by omega)) hsp (fun _ q => by omega) (fun q => by omega) (fun q => by omega) (fun q => by omega)) (by omega) (Or.inr (by omega)) hsp (fun _ q => by omega) (fun q => by omega) (fun q => by omega) (fun q => by omega)
    rw [Int.toNat_natCast]
    omega
  have L : ∀ k, k ≤ n → CI (foldUp (spS c e) (spI I c e) k) c e := by
    intro k
    induction k with
    | zero => exact fun _ => h0
    | succ k ih =>
      intro hk
      show CI (spS c e k _) c e
      exact CI_send (CI_far (CI_up (ih (by omega)) (by omega) (Or.inr (by omega)) hsp (fun q => by omega) (fun q => by omega) (fun _ => by omega) (fun q => by omega)) hsp (by omega) (by omega) (by omega) (by omega) (by omega)) hsp (by omega) (by omega)
  unfold startPM
  rw [hn]
  exact L n (Nat.le_refl _)
theorem CI_lg {I : II} {c e r : Nat} (h : CI I c e) (hsp : e + 31 ≤ c) (hr : r < 9) : CI (logM I c r) c e := by
  have g2 := h.2.1
  unfold logM lgI
  refine CI_cpy (CI_cpy (CI_cpy (CI_up (CI_far (CI_far (CI_far (CI_far (CI_far (CI_far h hsp (g2 _ _) (by omega) (by omega) (by omega) (by omega)) hsp (g2 _ _) (by omega) (by omega) (by omega) (by omega)) hsp (g2 _ _) (by omega) (by omega) (by omega) (by omega)) hsp (by omega) (by omega) (by omega) (by omega) (by omega)) hsp (by omega) (by omega) (by omega) (by omega) (by omega)) hsp (by omega) (by omega) (by omega) (by omega) (by omega)) (by omega) (Or.inr (by omega)) hsp (fun q => by omega) (fun q => by omega) (fun q => by omega) (fun _ => by omega)) hsp (by omega) (by omega) (by omega)) hsp (by omega) (by omega) (by omega)) hsp (by omega) (by omega) (by omega)
theorem lg_e {I : II} {c r x : Nat} (h : x < c) : logM I c r x = I x := by
  unfold logM lgI
  rw [cpy_ne (by omega), cpy_ne (by omega), cpy_ne (by omega), up_ne (by omega), up_ne (by omega), up_ne (by omega), up_ne (by omega), up_ne (by omega), up_ne (by omega), up_ne (by omega)]
/-- a round's beginning: its number, its quota, its log -/
def rbM (I : II) (c e r : Nat) : II := logM (up (up I (c + 1) 0 ((r : Int) + 1)) c 13 (wr (quotaF (up I (c + 1) 0 ((r : Int) + 1)) c e))) c r
theorem CI_rb {I : II} {c e r : Nat} (h : CI I c e) (hsp : e + 31 ≤ c) (hr : r < 9) : CI (rbM I c e r) c e :=
  CI_lg (CI_up (CI_up h (by omega) (Or.inr (by omega)) hsp (fun q => by omega) (fun _ q => by omega) (fun q => by omega) (fun q => by omega)) (wr_rng _) (Or.inr (by omega)) hsp (fun _ q => by omega) (fun q => by omega) (fun q => by omega) (fun q => by omega)) hsp hr
theorem rb_e {I : II} {c e r x : Nat} (h : x < c) : rbM I c e r x = I x := by
  unfold rbM
  rw [lg_e h, up_ne (by omega), up_ne (by omega)]
/-- rounds from r on, so many at most -/
def rdL (c e : Nat) : Nat → Nat → II → II
  | 0, _, I => I
  | k + 1, r, I => if (prF (rbM I c e r) c e r).1 = 0 then (prF (rbM I c e r) c e r).2 else rdL c e k (r + 1) (prF (rbM I c e r) c e r).2
def runM (I : II) (c e : Nat) : II := rdL c e 9 0 (startPM (startCM I c e) c e)
theorem runM_eq {I : II} {c e : Nat} : runM I c e = rdL c e 9 0 (startPM (startCM I c e) c e) := rfl
theorem CI_rd {c e : Nat} (hsp : e + 31 ≤ c) : ∀ k r (I : II), r + k ≤ 9 → CI I c e → CI (rdL c e k r I) c e
  | 0, _, _, _, h => h
  | k + 1, r, I, hk, h => by
    have k1 := CI_pr (CI_rb h hsp (show r < 9 by omega)) hsp (show r < 9 by omega)
    unfold rdL
    split
    · exact k1
    · exact CI_rd hsp k (r + 1) _ (by omega) k1
theorem CI_run {I : II} {c e : Nat} (h : CI I c e) (hsp : e + 31 ≤ c) : CI (runM I c e) c e := CI_rd hsp 9 0 _ (by omega) (CI_sp (CI_sc h hsp) hsp)
theorem prF_01 (I : II) (c e r : Nat) : (prF I c e r).1 = 0 ∨ (prF I c e r).1 = 1 := by
  unfold prF
  split
  · exact Or.inl rfl
  · split
    · exact Or.inl rfl
    · exact Or.inr rfl

set_option maxRecDepth 100000 in
set_option maxHeartbeats 4000000 in
theorem c_run {l : Launch} {g : GV} {S : SS} {I : II} {X : XX} {c e : Nat} (hfl : l.stackTraces = false) (hC : isCnt S c e) (hI0 : CI I c e) : CE l g mX1_run 4 [.ref c] S I X none (runM I c e) := by
  obtain ⟨n0, n1, n2, n3, n4, n5, n6, n6a, n7, n7a, n8, n8a, n9, n9a, n10, n10a, hR, hH, hF, hG, hE, hsp⟩ := id hC
  obtain ⟨r0, r1, r1a, r2, r2a, r3, r3a, rr⟩ := id hR
  obtain ⟨k0, k1, k2⟩ := id hH
  obtain ⟨f0, f1, f1a, f2, f2a, f3, f3a⟩ := id hF
  obtain ⟨l0, ⟨l1, l1a⟩, ⟨l2, l2a⟩, ⟨l3, l3a⟩, ⟨l4, l4a⟩, ⟨l5, l5a⟩, ⟨l6, l6a⟩, ⟨l7, l7a⟩, ⟨l8, l8a⟩, lr, ⟨l9, l9a⟩, lw⟩ := id hG
  obtain ⟨y0, y1, y1a, y2, y2a, y3, y3a, y4, y4a, y5, y5a, yr⟩ := id hE
  obtain ⟨g1, g2, g3, g4, g5, g6, g7⟩ := id hI0
  have i1 := CI_sc hI0 hsp
  have i2 := CI_sp i1 hsp
  have L : ∀ r : Nat, r ≤ 9 → ∀ (J : II) (b : Int), CI J c e → (b = 0 ∨ b = 1) → (if b = 0 then J else rdL c e (9 - r) r J) = runM I c e → V l g mX1_run 4 (Zm g (QE none S (runM I c e) X)) 0 0 12 [some (.ref c), some (.int (ii b)), some (.int (ii (r : Int)))] [] S J X := by
    refine loop_up fun r hr ih => ?_
    intro J b hI hb0 hK
    refine v_iload_n dX1_run_12 rfl ?_
    refine v_if_eq (tgt := 57) dX1_run_13 (by decide) (fun h13 => ?_) (fun h13 => ?_)
    · exact v_vE dX1_run_57 rfl (by first | (rw [← hK, if_pos (by omega)]) | (rw [← hK, show 9 - r = 0 by omega]; split <;> rfl))
    · refine v_iload_n dX1_run_16 rfl ?_
      refine v_bipush dX1_run_17 (by decide) ?_
      refine v_ic_ge (tgt := 57) dX1_run_19 (by decide) (fun h19 => ?_) (fun h19 => ?_)
      · exact v_vE dX1_run_57 rfl (by first | (rw [← hK, if_pos (by omega)]) | (rw [← hK, show 9 - r = 0 by omega]; split <;> rfl))
      · have kA : CI (up J (c + 1) 0 ((r : Int) + 1)) c e := CI_up hI (by omega) (Or.inr (by omega)) hsp (fun q => by omega) (fun _ q => by omega) (fun q => by omega) (fun q => by omega)
        have kW := kA.1
        have kB := CI_rb hI hsp (show r < 9 by omega)
        have k01 := prF_01 (rbM J c e r) c e r
        refine v_aload_n dX1_run_22 rfl ?_
        refine v_getr dX1_run_23 fr_X1_18 (by assumption) (by decide) rfl (by assumption) ?_
        refine v_iload_n dX1_run_26 rfl ?_
        refine v_iconst dX1_run_27 ?_
        refine v_iadd dX1_run_28 ?_
        refine v_puti dX1_run_29 fr_X1_67 (by assumption) (by decide) rfl ?_
        refine v_aload_n dX1_run_32 rfl ?_
        refine v_aload_n dX1_run_33 rfl ?_
        refine v_cV0 dX1_run_34 lk_X1_71 (by assumption) (by decide) rfl (c_findQuota hfl hC kW) (by decide) (Nat.le_of_ble_eq_true rfl) ?_ rfl
        refine v_wr ?_
        refine v_puti dX1_run_37 fr_X1_75 (by assumption) (by decide) rfl ?_
        refine v_aload_n dX1_run_40 rfl ?_
        refine v_iload_n dX1_run_41 rfl ?_
        refine v_cV1n dX1_run_42 lk_X1_78 (by assumption) (by decide) rfl (c_logRound hfl hC (by omega)) (by decide) (Nat.le_of_ble_eq_true rfl) ?_ rfl
        refine v_aload_n dX1_run_45 rfl ?_
        refine v_iload_n dX1_run_46 rfl ?_
        refine v_cV1 dX1_run_47 lk_X1_82 (by assumption) (by decide) rfl (c_playRound hfl hC kB (by omega)) (by decide) (Nat.le_of_ble_eq_true rfl) ?_ rfl
        refine v_istn1 dX1_run_50 rfl ?_
        refine v_iinc2 dX1_run_51 rfl ?_
        have kP := CI_pr kB hsp (show r < 9 by omega)
        have kQ : (if (prF (rbM J c e r) c e r).1 = 0 then (prF (rbM J c e r) c e r).2 else rdL c e (9 - (r + 1)) (r + 1) (prF (rbM J c e r) c e r).2) = runM I c e := by
          rw [if_neg (show ¬ b = 0 by omega), show 9 - r = (9 - (r + 1)) + 1 by omega] at hK
          exact hK
        refine v_goto (tgt := 12) dX1_run_54 (by decide) ?_
        exact ih (r + 1) (by omega) (by omega) _ _ kP k01 kQ
  refine v_startE hfl rfl (by decide) (Nat.le_of_ble_eq_true rfl) (ls := [some (.ref c), none, none]) rfl ?_
  refine v_aload_n dX1_run_0 rfl ?_
  refine v_cV0n dX1_run_1 lk_X1_61 (by assumption) (by decide) rfl (c_startCandidates hfl hC g1) (by decide) (Nat.le_of_ble_eq_true rfl) ?_ rfl
  refine v_aload_n dX1_run_4 rfl ?_
  refine v_cV0n dX1_run_5 lk_X1_64 (by assumption) (by decide) rfl (c_startPiles (h := (startCM I c e c 10).toNat) hfl hC i1.1 (by have := i1.2.2.1; omega) (by have := i1.2.2.1; omega)) (by decide) (Nat.le_of_ble_eq_true rfl) ?_ rfl
  refine v_iconst dX1_run_8 ?_
  refine v_istn1 dX1_run_9 rfl ?_
  refine v_iconst dX1_run_10 ?_
  refine v_istn2 dX1_run_11 rfl ?_
  exact L 0 (Nat.zero_le _) _ 1 i2 (Or.inr rfl) (by rw [if_neg (by decide), runM_eq])
