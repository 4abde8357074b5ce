/-! RESULTS -/
/-- what a result's numbers are within -/
def RI (I : II) (r : Nat) : Prop := (0 ≤ I r 0 ∧ I r 0 ≤ 9) ∧ 0 ≤ I r 1 ∧ I r 1 ≤ 8
def hrF (I : II) (r : Nat) (z : Int) : Int := if 0 ≤ z ∧ z < I r 0 then 1 else 0
/-- the first place from k on that holds cd -/
def plF (f : Nat → Int) (cd : Int) : Nat → Nat → Int
  | 0, _ => -1
  | n + 1, k => if f k = cd then k else plF f cd n (k + 1)
def lvF (I : II) (r c : Nat) : Int := if 0 < I r 0 then I (r + 4 + (I r 0 - 1).toNat) c else 0
def cpyR (I : II) (s d : Nat) : II := foldUp (fun k J => cpy J (s + 4 + k) (d + 4 + k) 0 0 8) (cpy (cpy (up (up I d 0 (I s 0)) d 1 (up I d 0 (I s 0) s 1)) (s + 1) (d + 1) 0 0 8) (s + 2) (d + 2) 0 0 8) 9
def osF (f h : Nat → Int) : Nat → Int
  | 0 => 0
  | k + 1 => if f k = h k then osF f h k else osF f h k + 1
/-- the first of so many places, from k on, where two rows differ -/
def dfF (f h : Nat → Int) : Nat → Nat → Nat
  | 0, k => k
  | n + 1, k => if f k = h k then dfF f h n (k + 1) else k
def fpF (I : II) (r o : Nat) : Int := if dfF (I (r + 1)) (I (o + 1)) (mnI (I r 1) (I o 1)).toNat 0 < (mnI (I r 1) (I o 1)).toNat then dfF (I (r + 1)) (I (o + 1)) (mnI (I r 1) (I o 1)).toNat 0 else if I r 1 = I o 1 then -1 else mnI (I r 1) (I o 1)
/-- the first of so many rounds, from k on, in which two have other votes -/
def drF (I : II) (r o n : Nat) : Nat → Nat → Nat
  | 0, k => k
  | m + 1, k => if dfF (I (r + 4 + k)) (I (o + 4 + k)) n 0 < n then k else drF I r o n m (k + 1)
def frF (I : II) (r o n : Nat) : Int := if drF I r o n (mnI (I r 0) (I o 0)).toNat 0 < (mnI (I r 0) (I o 0)).toNat then drF I r o n (mnI (I r 0) (I o 0)).toNat 0 else if I r 0 = I o 0 then -1 else mnI (I r 0) (I o 0)
theorem dfF_ge (f h : Nat → Int) : ∀ n k, k ≤ dfF f h n k ∧ dfF f h n k ≤ k + n
  | 0, k => by
    show k ≤ k ∧ k ≤ k + 0
    omega
  | n + 1, k => by
    have := dfF_ge f h n (k + 1)
    unfold dfF
    split <;> omega

set_option maxRecDepth 100000 in
set_option maxHeartbeats 4000000 in
theorem c_hasRound {l : Launch} {g : GV} {S : SS} {I : II} {X : XX} {r : Nat} {z : Int} (hfl : l.stackTraces = false) (hR : isRes S r) (hI : RI I r) (hz : -2147483648 ≤ z ∧ z < 2147483648) : CE l g mX5_hasRound 0 [.ref r, .int (ii z)] S I X (some (.int (ii (hrF I r z)))) I := by
  obtain ⟨r0, r1, r1a, r2, r2a, r3, r3a, rr⟩ := id hR
  obtain ⟨q1, q2⟩ := id hI
  refine v_startE hfl rfl (by decide) (Nat.le_of_ble_eq_true rfl) (ls := [some (.ref r), some (.int (ii z))]) rfl ?_
  refine v_iload_n dX5_hasRound_0 rfl ?_
  refine v_if_lt (tgt := 16) dX5_hasRound_1 (by decide) (fun h1 => ?_) (fun h1 => ?_)
  · refine v_iconst dX5_hasRound_16 ?_
    exact v_zE dX5_hasRound_17 rfl (by first | exact Or.inl rfl | exact Or.inr rfl | omega) (by unfold hrF; first | rw [if_pos (by omega)] | rw [if_neg (by omega)]) (rfl)
  · refine v_iload_n dX5_hasRound_4 rfl ?_
    refine v_aload_n dX5_hasRound_5 rfl ?_
    refine v_geti dX5_hasRound_6 fr_X5_23 (by assumption) (by decide) rfl ?_
    refine v_ic_ge (tgt := 16) dX5_hasRound_9 (by decide) (fun h9 => ?_) (fun h9 => ?_)
    · refine v_iconst dX5_hasRound_16 ?_
      exact v_zE dX5_hasRound_17 rfl (by first | exact Or.inl rfl | exact Or.inr rfl | omega) (by unfold hrF; first | rw [if_pos (by omega)] | rw [if_neg (by omega)]) (rfl)
    · refine v_iconst dX5_hasRound_12 ?_
      refine v_goto (tgt := 17) dX5_hasRound_13 (by decide) ?_
      exact v_zE dX5_hasRound_17 rfl (by first | exact Or.inl rfl | exact Or.inr rfl | omega) (by unfold hrF; first | rw [if_pos (by omega)] | rw [if_neg (by omega)]) (rfl)

set_option maxRecDepth 100000 in
set_option maxHeartbeats 4000000 in
theorem c_placeOf {l : Launch} {g : GV} {S : SS} {I : II} {X : XX} {r : Nat} {cd : Int} (hfl : l.stackTraces = false) (hR : isRes S r) (hI : RI I r) (hRG : RG I) (hz : -2147483648 ≤ cd ∧ cd < 2147483648) : CE l g mX5_placeOf 0 [.ref r, .int (ii cd)] S I X (some (.int (ii (plF (I (r + 1)) cd (I r 1).toNat 0)))) I := by
  obtain ⟨r0, r1, r1a, r2, r2a, r3, r3a, rr⟩ := id hR
  obtain ⟨q1, q2⟩ := id hI
  obtain ⟨n, hn⟩ := Int.eq_ofNat_of_zero_le q2.1
  rw [show (I r 1).toNat = n by rw [hn]; rfl]
  have L : ∀ k : Nat, k ≤ n → V l g mX5_placeOf 0 (Zm g (QE (some (.int (ii (plF (I (r + 1)) cd (n - k) k)))) S I X)) 0 0 2 [some (.ref r), some (.int (ii cd)), some (.int (ii (k : Int)))] [] S I X := by
    refine loop_up fun k hk ih => ?_
    refine v_iload_n dX5_placeOf_2 rfl ?_
    refine v_aload_n dX5_placeOf_3 rfl ?_
    refine v_geti dX5_placeOf_4 fr_X5_27 (by assumption) (by decide) rfl ?_
    refine v_ic_ge (tgt := 28) dX5_placeOf_7 (by decide) (fun h7 => ?_) (fun h7 => ?_)
    · refine v_iconst dX5_placeOf_28 ?_
      exact v_iE dX5_placeOf_29 rfl (by rw [show n - k = 0 by omega]; rfl) (rfl)
    · have g9 := hRG (r + 1) k
      have ex : plF (I (r + 1)) cd (n - k) k = if I (r + 1) k = cd then (k : Int) else plF (I (r + 1)) cd (n - (k + 1)) (k + 1) := by
        rw [show n - k = (n - (k + 1)) + 1 by omega]
        rfl
      refine v_aload_n dX5_placeOf_10 rfl ?_
      refine v_getr dX5_placeOf_11 fr_X5_9 (by assumption) (by decide) rfl (by assumption) ?_
      refine v_iload_n dX5_placeOf_14 rfl ?_
      refine v_iald (j := k) dX5_placeOf_15 (by assumption) (by first | rfl | omega) (by omega) ?_
      refine v_iload_n dX5_placeOf_16 rfl ?_
      refine v_ic_ne (tgt := 22) dX5_placeOf_17 (by decide) (fun h17 => ?_) (fun h17 => ?_)
      · refine v_iinc2 dX5_placeOf_22 rfl ?_
        refine v_goto (tgt := 2) dX5_placeOf_25 (by decide) ?_
        rw [ex, if_neg (by omega)]
        exact ih (k + 1) (by omega) (by omega)
      · refine v_iload_n dX5_placeOf_20 rfl ?_
        exact v_iE dX5_placeOf_21 rfl (by rw [ex, if_pos h17]) (rfl)
  refine v_startE hfl rfl (by decide) (Nat.le_of_ble_eq_true rfl) (ls := [some (.ref r), some (.int (ii cd)), none]) rfl ?_
  refine v_iconst dX5_placeOf_0 ?_
  refine v_istn2 dX5_placeOf_1 rfl ?_
  exact L 0 (Nat.zero_le _)

set_option maxRecDepth 100000 in
set_option maxHeartbeats 4000000 in
theorem c_lastVotes {l : Launch} {g : GV} {S : SS} {I : II} {X : XX} {r c : Nat} (hfl : l.stackTraces = false) (hR : isRes S r) (hI : RI I r) (hc : c < 8) : CE l g mX5_lastVotes 0 [.ref r, .int (ii (c : Int))] S I X (some (.int (ii (lvF I r c)))) I := by
  obtain ⟨r0, r1, r1a, r2, r2a, r3, r3a, rr⟩ := id hR
  obtain ⟨q1, q2⟩ := id hI
  refine v_startE hfl rfl (by decide) (Nat.le_of_ble_eq_true rfl) (ls := [some (.ref r), some (.int (ii (c : Int)))]) rfl ?_
  refine v_aload_n dX5_lastVotes_0 rfl ?_
  refine v_geti dX5_lastVotes_1 fr_X5_23 (by assumption) (by decide) rfl ?_
  refine v_if_le (tgt := 23) dX5_lastVotes_4 (by decide) (fun h4 => ?_) (fun h4 => ?_)
  · refine v_iconst dX5_lastVotes_23 ?_
    exact v_iE dX5_lastVotes_24 rfl (by unfold lvF; first | (rw [if_pos (by omega), hn]; rfl) | rw [if_neg (by omega)]) (rfl)
  · refine v_aload_n dX5_lastVotes_7 rfl ?_
    refine v_getr dX5_lastVotes_8 fr_X5_20 (by assumption) (by decide) rfl (by assumption) ?_
    refine v_aload_n dX5_lastVotes_11 rfl ?_
    refine v_geti dX5_lastVotes_12 fr_X5_23 (by assumption) (by decide) rfl ?_
    refine v_iconst dX5_lastVotes_15 ?_
    refine v_isub dX5_lastVotes_16 ?_
    obtain ⟨n, hn⟩ : ∃ n : Nat, I r 0 - 1 = (n : Int) := Int.eq_ofNat_of_zero_le (by omega)
    refine v_aald22 (j := n) dX5_lastVotes_17 (by assumption) (by first | rfl | omega) (by omega) ((rr n (by omega)).1) ?_
    have rq := (rr n (by omega)).2
    refine v_iload_n dX5_lastVotes_18 rfl ?_
    refine v_iald (j := c) dX5_lastVotes_19 (by assumption) (by first | rfl | omega) (by omega) ?_
    refine v_goto (tgt := 24) dX5_lastVotes_20 (by decide) ?_
    exact v_iE dX5_lastVotes_24 rfl (by unfold lvF; first | (rw [if_pos (by omega), hn]; rfl) | rw [if_neg (by omega)]) (rfl)

set_option maxRecDepth 100000 in
set_option maxHeartbeats 4000000 in
theorem c_copyResult {l : Launch} {g : GV} {S : SS} {I : II} {X : XX} {s d : Nat} (hfl : l.stackTraces = false) (hR : isRes S s) (hD : isRes S d) : CE l g mX5_copyFrom 1 [.ref d, .ref s] S I X none (cpyR I s d) := by
  obtain ⟨r0, r1, r1a, r2, r2a, r3, r3a, rr⟩ := id hR
  obtain ⟨d0, d1, d1a, d2, d2a, d3, d3a, dd⟩ := id hD
  have L : ∀ k : Nat, k ≤ 9 → V l g mX5_copyFrom 1 (Zm g (QE none S (cpyR I s d) X)) 0 0 48 [some (.ref d), some (.ref s), some (.int (ii (k : Int)))] [] S (foldUp (fun k J => cpy J (s + 4 + k) (d + 4 + k) 0 0 8) (cpy (cpy (up (up I d 0 (I s 0)) d 1 (up I d 0 (I s 0) s 1)) (s + 1) (d + 1) 0 0 8) (s + 2) (d + 2) 0 0 8) k) X := by
    refine loop_up fun k hk ih => ?_
    refine v_iload_n dX5_copyFrom_48 rfl ?_
    refine v_bipush dX5_copyFrom_49 (by decide) ?_
    refine v_ic_ge (tgt := 79) dX5_copyFrom_51 (by decide) (fun h51 => ?_) (fun h51 => ?_)
    · obtain rfl : k = 9 := by omega
      exact v_vE dX5_copyFrom_79 rfl (rfl)
    · have yq := (rr k (by omega)).2
      have zq := (dd k (by omega)).2
      refine v_aload_n dX5_copyFrom_54 rfl ?_
      refine v_getr dX5_copyFrom_55 fr_X5_20 (by assumption) (by decide) rfl (by assumption) ?_
      refine v_iload_n dX5_copyFrom_58 rfl ?_
      refine v_aald22 (j := k) dX5_copyFrom_59 (by assumption) (by first | rfl | omega) (by omega) ((rr k (by omega)).1) ?_
      refine v_iconst dX5_copyFrom_60 ?_
      refine v_aload_n dX5_copyFrom_61 rfl ?_
      refine v_getr dX5_copyFrom_62 fr_X5_20 (by assumption) (by decide) rfl (by assumption) ?_
      refine v_iload_n dX5_copyFrom_65 rfl ?_
      refine v_aald22 (j := k) dX5_copyFrom_66 (by assumption) (by first | rfl | omega) (by omega) ((dd k (by omega)).1) ?_
      refine v_iconst dX5_copyFrom_67 ?_
      refine v_bipush dX5_copyFrom_68 (by decide) ?_
      refine v_copy (sp := 0) (dq := 0) (n := 8) dX5_copyFrom_70 cy_X5_30 (by assumption) (by assumption) (by first | rfl | omega) (by first | rfl | omega) (by first | rfl | omega) (by omega) (by omega) (by decide) (Nat.le_of_ble_eq_true rfl) ?_
      refine v_iinc2 dX5_copyFrom_73 rfl ?_
      refine v_goto (tgt := 48) dX5_copyFrom_76 (by decide) ?_
      exact ih (k + 1) (by omega) (by omega)
  refine v_startE hfl rfl (by decide) (Nat.le_of_ble_eq_true rfl) (ls := [some (.ref d), some (.ref s), none]) rfl ?_
  refine v_aload_n dX5_copyFrom_0 rfl ?_
  refine v_aload_n dX5_copyFrom_1 rfl ?_
  refine v_geti dX5_copyFrom_2 fr_X5_23 (by assumption) (by decide) rfl ?_
  refine v_puti dX5_copyFrom_5 fr_X5_23 (by assumption) (by decide) rfl ?_
  refine v_aload_n dX5_copyFrom_8 rfl ?_
  refine v_aload_n dX5_copyFrom_9 rfl ?_
  refine v_geti dX5_copyFrom_10 fr_X5_27 (by assumption) (by decide) rfl ?_
  refine v_puti dX5_copyFrom_13 fr_X5_27 (by assumption) (by decide) rfl ?_
  refine v_aload_n dX5_copyFrom_16 rfl ?_
  refine v_getr dX5_copyFrom_17 fr_X5_9 (by assumption) (by decide) rfl (by assumption) ?_
  refine v_iconst dX5_copyFrom_20 ?_
  refine v_aload_n dX5_copyFrom_21 rfl ?_
  refine v_getr dX5_copyFrom_22 fr_X5_9 (by assumption) (by decide) rfl (by assumption) ?_
  refine v_iconst dX5_copyFrom_25 ?_
  refine v_bipush dX5_copyFrom_26 (by decide) ?_
  refine v_copy (sp := 0) (dq := 0) (n := 8) dX5_copyFrom_28 cy_X5_30 (by assumption) (by assumption) (by first | rfl | omega) (by first | rfl | omega) (by first | rfl | omega) (by omega) (by omega) (by decide) (Nat.le_of_ble_eq_true rfl) ?_
  refine v_aload_n dX5_copyFrom_31 rfl ?_
  refine v_getr dX5_copyFrom_32 fr_X5_15 (by assumption) (by decide) rfl (by assumption) ?_
  refine v_iconst dX5_copyFrom_35 ?_
  refine v_aload_n dX5_copyFrom_36 rfl ?_
  refine v_getr dX5_copyFrom_37 fr_X5_15 (by assumption) (by decide) rfl (by assumption) ?_
  refine v_iconst dX5_copyFrom_40 ?_
  refine v_bipush dX5_copyFrom_41 (by decide) ?_
  refine v_copy (sp := 0) (dq := 0) (n := 8) dX5_copyFrom_43 cy_X5_30 (by assumption) (by assumption) (by first | rfl | omega) (by first | rfl | omega) (by first | rfl | omega) (by omega) (by omega) (by decide) (Nat.le_of_ble_eq_true rfl) ?_
  refine v_iconst dX5_copyFrom_46 ?_
  refine v_istn2 dX5_copyFrom_47 rfl ?_
  exact L 0 (Nat.zero_le _)

set_option maxRecDepth 100000 in
set_option maxHeartbeats 4000000 in
theorem c_otherStatuses {l : Launch} {g : GV} {S : SS} {I : II} {X : XX} {r o n : Nat} (hfl : l.stackTraces = false) (hR : isRes S r) (hO : isRes S o) (hRG : RG I) (hn : n ≤ 8) : CE l g mX5_otherStatuses 0 [.ref r, .ref o, .int (ii (n : Int))] S I X (some (.int (ii (osF (I (r + 2)) (I (o + 2)) n)))) I := by
  obtain ⟨r0, r1, r1a, r2, r2a, r3, r3a, rr⟩ := id hR
  obtain ⟨d0, d1, d1a, d2, d2a, d3, d3a, dd⟩ := id hO
  have L : ∀ k : Nat, k ≤ n → V l g mX5_otherStatuses 0 (Zm g (QE (some (.int (ii (osF (I (r + 2)) (I (o + 2)) n)))) S I X)) 0 0 5 [some (.ref r), some (.ref o), some (.int (ii (n : Int))), some (.int (ii (osF (I (r + 2)) (I (o + 2)) k))), some (.int (ii (k : Int)))] [] S I X := by
    refine loop_up fun k hk ih => ?_
    refine v_iload dX5_otherStatuses_5 rfl ?_
    refine v_iload_n dX5_otherStatuses_7 rfl ?_
    refine v_ic_ge (tgt := 37) dX5_otherStatuses_8 (by decide) (fun h8 => ?_) (fun h8 => ?_)
    · obtain rfl : k = n := by omega
      refine v_iload_n dX5_otherStatuses_37 rfl ?_
      exact v_iE dX5_otherStatuses_38 rfl (rfl) (rfl)
    · have g1 := hRG (r + 2) k
      have g2 := hRG (o + 2) k
      have ex : osF (I (r + 2)) (I (o + 2)) (k + 1) = if I (r + 2) k = I (o + 2) k then osF (I (r + 2)) (I (o + 2)) k else osF (I (r + 2)) (I (o + 2)) k + 1 := rfl
      refine v_aload_n dX5_otherStatuses_11 rfl ?_
      refine v_getr dX5_otherStatuses_12 fr_X5_15 (by assumption) (by decide) rfl (by assumption) ?_
      refine v_iload dX5_otherStatuses_15 rfl ?_
      refine v_iald (j := k) dX5_otherStatuses_17 (by assumption) (by first | rfl | omega) (by omega) ?_
      refine v_aload_n dX5_otherStatuses_18 rfl ?_
      refine v_getr dX5_otherStatuses_19 fr_X5_15 (by assumption) (by decide) rfl (by assumption) ?_
      refine v_iload dX5_otherStatuses_22 rfl ?_
      refine v_iald (j := k) dX5_otherStatuses_24 (by assumption) (by first | rfl | omega) (by omega) ?_
      refine v_ic_eq (tgt := 31) dX5_otherStatuses_25 (by decide) (fun h25 => ?_) (fun h25 => ?_)
      · refine v_iinc4 dX5_otherStatuses_31 rfl ?_
        refine v_goto (tgt := 5) dX5_otherStatuses_34 (by decide) ?_
        have q9 := ih (k + 1) (by omega) (by omega)
        rw [ex] at q9
        first | (rw [if_pos (by omega)] at q9; exact q9) | (rw [if_neg (by omega)] at q9; exact q9)
      · refine v_iinc3 dX5_otherStatuses_28 rfl ?_
        refine v_iinc4 dX5_otherStatuses_31 rfl ?_
        refine v_goto (tgt := 5) dX5_otherStatuses_34 (by decide) ?_
        have q9 := ih (k + 1) (by omega) (by omega)
        rw [ex] at q9
        first | (rw [if_pos (by omega)] at q9; exact q9) | (rw [if_neg (by omega)] at q9; exact q9)
  refine v_startE hfl rfl (by decide) (Nat.le_of_ble_eq_true rfl) (ls := [some (.ref r), some (.ref o), some (.int (ii (n : Int))), none, none]) rfl ?_
  refine v_iconst dX5_otherStatuses_0 ?_
  refine v_istn3 dX5_otherStatuses_1 rfl ?_
  refine v_iconst dX5_otherStatuses_2 ?_
  refine v_ist4 dX5_otherStatuses_3 rfl ?_
  exact L 0 (Nat.zero_le _)

set_option maxRecDepth 100000 in
set_option maxHeartbeats 4000000 in
theorem c_firstOtherPlace {l : Launch} {g : GV} {S : SS} {I : II} {X : XX} {r o : Nat} (hfl : l.stackTraces = false) (hR : isRes S r) (hO : isRes S o) (hI : RI I r) (hJ : RI I o) (hRG : RG I) : CE l g mX5_firstOtherPlace 1 [.ref r, .ref o] S I X (some (.int (ii (fpF I r o)))) I := by
  obtain ⟨r0, r1, r1a, r2, r2a, r3, r3a, rr⟩ := id hR
  obtain ⟨d0, d1, d1a, d2, d2a, d3, d3a, dd⟩ := id hO
  obtain ⟨q1, q2⟩ := id hI
  obtain ⟨q3, q4⟩ := id hJ
  have hm : 0 ≤ mnI (I r 1) (I o 1) ∧ mnI (I r 1) (I o 1) ≤ 8 := by unfold mnI; split <;> omega
  obtain ⟨b, hb⟩ := Int.eq_ofNat_of_zero_le hm.1
  have L : ∀ k : Nat, k ≤ b → dfF (I (r + 1)) (I (o + 1)) b 0 = dfF (I (r + 1)) (I (o + 1)) (b - k) k → V l g mX5_firstOtherPlace 1 (Zm g (QE (some (.int (ii (fpF I r o)))) S I X)) 0 0 14 [some (.ref r), some (.ref o), some (.int (ii (b : Int))), some (.int (ii (k : Int)))] [] S I X := by
    refine loop_up fun k hk ih => ?_
    intro hk9
    refine v_iload_n dX5_firstOtherPlace_14 rfl ?_
    refine v_iload_n dX5_firstOtherPlace_15 rfl ?_
    refine v_ic_ge (tgt := 42) dX5_firstOtherPlace_16 (by decide) (fun h16 => ?_) (fun h16 => ?_)
    · have e0 : dfF (I (r + 1)) (I (o + 1)) (b - k) k = k := by rw [show b - k = 0 by omega]; rfl
      refine v_aload_n dX5_firstOtherPlace_42 rfl ?_
      refine v_geti dX5_firstOtherPlace_43 fr_X5_27 (by assumption) (by decide) rfl ?_
      refine v_aload_n dX5_firstOtherPlace_46 rfl ?_
      refine v_geti dX5_firstOtherPlace_47 fr_X5_27 (by assumption) (by decide) rfl ?_
      refine v_ic_ne (tgt := 57) dX5_firstOtherPlace_50 (by decide) (fun h50 => ?_) (fun h50 => ?_)
      · refine v_iload_n dX5_firstOtherPlace_57 rfl ?_
        exact v_iE dX5_firstOtherPlace_58 rfl (by unfold fpF; rw [hb, Int.toNat_natCast, hk9, e0, if_neg (by omega)]; first | rw [if_pos h50] | rw [if_neg h50]) rfl
      · refine v_iconst dX5_firstOtherPlace_53 ?_
        refine v_goto (tgt := 58) dX5_firstOtherPlace_54 (by decide) ?_
        exact v_iE dX5_firstOtherPlace_58 rfl (by unfold fpF; rw [hb, Int.toNat_natCast, hk9, e0, if_neg (by omega)]; first | rw [if_pos h50] | rw [if_neg h50]) rfl
    · have g1 := hRG (r + 1) k
      have g2 := hRG (o + 1) k
      have ex : dfF (I (r + 1)) (I (o + 1)) (b - k) k = if I (r + 1) k = I (o + 1) k then dfF (I (r + 1)) (I (o + 1)) (b - (k + 1)) (k + 1) else k := by
        rw [show b - k = (b - (k + 1)) + 1 by omega]
        rfl
      refine v_aload_n dX5_firstOtherPlace_19 rfl ?_
      refine v_getr dX5_firstOtherPlace_20 fr_X5_9 (by assumption) (by decide) rfl (by assumption) ?_
      refine v_iload_n dX5_firstOtherPlace_23 rfl ?_
      refine v_iald (j := k) dX5_firstOtherPlace_24 (by assumption) (by first | rfl | omega) (by omega) ?_
      refine v_aload_n dX5_firstOtherPlace_25 rfl ?_
      refine v_getr dX5_firstOtherPlace_26 fr_X5_9 (by assumption) (by decide) rfl (by assumption) ?_
      refine v_iload_n dX5_firstOtherPlace_29 rfl ?_
      refine v_iald (j := k) dX5_firstOtherPlace_30 (by assumption) (by first | rfl | omega) (by omega) ?_
      refine v_ic_eq (tgt := 36) dX5_firstOtherPlace_31 (by decide) (fun h31 => ?_) (fun h31 => ?_)
      · refine v_iinc3 dX5_firstOtherPlace_36 rfl ?_
        refine v_goto (tgt := 14) dX5_firstOtherPlace_39 (by decide) ?_
        exact ih (k + 1) (by omega) (by omega) (by rw [hk9, ex, if_pos (by omega)])
      · refine v_iload_n dX5_firstOtherPlace_34 rfl ?_
        exact v_iE dX5_firstOtherPlace_35 rfl (by unfold fpF; rw [hb, Int.toNat_natCast, hk9, ex, if_neg h31, if_pos (by omega)]) rfl
  refine v_startE hfl rfl (by decide) (Nat.le_of_ble_eq_true rfl) (ls := [some (.ref r), some (.ref o), none, none]) rfl ?_
  refine v_aload_n dX5_firstOtherPlace_0 rfl ?_
  refine v_geti dX5_firstOtherPlace_1 fr_X5_27 (by assumption) (by decide) rfl ?_
  refine v_aload_n dX5_firstOtherPlace_4 rfl ?_
  refine v_geti dX5_firstOtherPlace_5 fr_X5_27 (by assumption) (by decide) rfl ?_
  refine v_mmin dX5_firstOtherPlace_8 lk_X5_36 (by decide) (Nat.le_of_ble_eq_true rfl) ?_
  rw [hb]
  refine v_istn2 dX5_firstOtherPlace_11 rfl ?_
  refine v_iconst dX5_firstOtherPlace_12 ?_
  refine v_istn3 dX5_firstOtherPlace_13 rfl ?_
  exact L 0 (Nat.zero_le _) rfl

set_option maxRecDepth 100000 in
set_option maxHeartbeats 4000000 in
theorem c_firstOtherRound {l : Launch} {g : GV} {S : SS} {I : II} {X : XX} {r o n : Nat} (hfl : l.stackTraces = false) (hR : isRes S r) (hO : isRes S o) (hI : RI I r) (hJ : RI I o) (hRG : RG I) (hn : n ≤ 8) : CE l g mX5_firstOtherRound 1 [.ref r, .ref o, .int (ii (n : Int))] S I X (some (.int (ii (frF I r o n)))) I := by
  obtain ⟨r0, r1, r1a, r2, r2a, r3, r3a, rr⟩ := id hR
  obtain ⟨d0, d1, d1a, d2, d2a, d3, d3a, dd⟩ := id hO
  obtain ⟨q1, q2⟩ := id hI
  obtain ⟨q3, q4⟩ := id hJ
  have hm : 0 ≤ mnI (I r 0) (I o 0) ∧ mnI (I r 0) (I o 0) ≤ 9 := by unfold mnI; split <;> omega
  obtain ⟨b, hb⟩ := Int.eq_ofNat_of_zero_le hm.1
  have L : ∀ k : Nat, k ≤ b → drF I r o n b 0 = drF I r o n (b - k) k → V l g mX5_firstOtherRound 1 (Zm g (QE (some (.int (ii (frF I r o n)))) S I X)) 0 0 15 [some (.ref r), some (.ref o), some (.int (ii (n : Int))), some (.int (ii (b : Int))), some (.int (ii (k : Int))), none] [] S I X := by
    refine loop_up fun k hk ih => ?_
    intro hk9
    refine v_iload dX5_firstOtherRound_15 rfl ?_
    refine v_iload_n dX5_firstOtherRound_17 rfl ?_
    refine v_ic_ge (tgt := 68) dX5_firstOtherRound_18 (by decide) (fun h18 => ?_) (fun h18 => ?_)
    · have e0 : drF I r o n (b - k) k = k := by rw [show b - k = 0 by omega]; rfl
      refine v_aload_n dX5_firstOtherRound_68 rfl ?_
      refine v_geti dX5_firstOtherRound_69 fr_X5_23 (by assumption) (by decide) rfl ?_
      refine v_aload_n dX5_firstOtherRound_72 rfl ?_
      refine v_geti dX5_firstOtherRound_73 fr_X5_23 (by assumption) (by decide) rfl ?_
      refine v_ic_ne (tgt := 83) dX5_firstOtherRound_76 (by decide) (fun h76 => ?_) (fun h76 => ?_)
      · refine v_iload_n dX5_firstOtherRound_83 rfl ?_
        exact v_iE dX5_firstOtherRound_84 rfl (by unfold frF; rw [hb, Int.toNat_natCast, hk9, e0, if_neg (by omega)]; first | rw [if_pos h76] | rw [if_neg h76]) rfl
      · refine v_iconst dX5_firstOtherRound_79 ?_
        refine v_goto (tgt := 84) dX5_firstOtherRound_80 (by decide) ?_
        exact v_iE dX5_firstOtherRound_84 rfl (by unfold frF; rw [hb, Int.toNat_natCast, hk9, e0, if_neg (by omega)]; first | rw [if_pos h76] | rw [if_neg h76]) rfl
    · have ek : drF I r o n (b - k) k = if dfF (I (r + 4 + k)) (I (o + 4 + k)) n 0 < n then k else drF I r o n (b - (k + 1)) (k + 1) := by
        rw [show b - k = (b - (k + 1)) + 1 by omega]
        rfl
      have M : ∀ j : Nat, j ≤ n → dfF (I (r + 4 + k)) (I (o + 4 + k)) n 0 = dfF (I (r + 4 + k)) (I (o + 4 + k)) (n - j) j → V l g mX5_firstOtherRound 1 (Zm g (QE (some (.int (ii (frF I r o n)))) S I X)) 0 0 24 [some (.ref r), some (.ref o), some (.int (ii (n : Int))), some (.int (ii (b : Int))), some (.int (ii (k : Int))), some (.int (ii (j : Int)))] [] S I X := by
        refine loop_up fun j hj jh => ?_
        intro hj9
        refine v_iload dX5_firstOtherRound_24 rfl ?_
        refine v_iload_n dX5_firstOtherRound_26 rfl ?_
        refine v_ic_ge (tgt := 62) dX5_firstOtherRound_27 (by decide) (fun h27 => ?_) (fun h27 => ?_)
        · have e0 : dfF (I (r + 4 + k)) (I (o + 4 + k)) (n - j) j = j := by rw [show n - j = 0 by omega]; rfl
          refine v_iinc4 dX5_firstOtherRound_62 rfl ?_
          refine v_goto (tgt := 15) dX5_firstOtherRound_65 (by decide) ?_
          exact v_fgt2 (ih (k + 1) (by omega) (by omega) (by rw [hk9, ek, if_neg (by rw [hj9, e0]; omega)])) (fgt_c (Or.inr rfl) (fgt_c (Or.inr rfl) (fgt_c (Or.inr rfl) (fgt_c (Or.inr rfl) (fgt_c (Or.inr rfl) (fgt_c (Or.inl rfl) (fgt_n)))))))
        · have yq := (rr k (by omega)).2
          have zq := (dd k (by omega)).2
          have g1 := hRG (r + 4 + k) j
          have g2 := hRG (o + 4 + k) j
          have ex : dfF (I (r + 4 + k)) (I (o + 4 + k)) (n - j) j = if I (r + 4 + k) j = I (o + 4 + k) j then dfF (I (r + 4 + k)) (I (o + 4 + k)) (n - (j + 1)) (j + 1) else j := by
            rw [show n - j = (n - (j + 1)) + 1 by omega]
            rfl
          refine v_aload_n dX5_firstOtherRound_30 rfl ?_
          refine v_getr dX5_firstOtherRound_31 fr_X5_20 (by assumption) (by decide) rfl (by assumption) ?_
          refine v_iload dX5_firstOtherRound_34 rfl ?_
          refine v_aald22 (j := k) dX5_firstOtherRound_36 (by assumption) (by first | rfl | omega) (by omega) ((rr k (by omega)).1) ?_
          refine v_iload dX5_firstOtherRound_37 rfl ?_
          refine v_iald (j := j) dX5_firstOtherRound_39 (by assumption) (by first | rfl | omega) (by omega) ?_
          refine v_aload_n dX5_firstOtherRound_40 rfl ?_
          refine v_getr dX5_firstOtherRound_41 fr_X5_20 (by assumption) (by decide) rfl (by assumption) ?_
          refine v_iload dX5_firstOtherRound_44 rfl ?_
          refine v_aald22 (j := k) dX5_firstOtherRound_46 (by assumption) (by first | rfl | omega) (by omega) ((dd k (by omega)).1) ?_
          refine v_iload dX5_firstOtherRound_47 rfl ?_
          refine v_iald (j := j) dX5_firstOtherRound_49 (by assumption) (by first | rfl | omega) (by omega) ?_
          refine v_ic_eq (tgt := 56) dX5_firstOtherRound_50 (by decide) (fun h50 => ?_) (fun h50 => ?_)
          · refine v_iinc5 dX5_firstOtherRound_56 rfl ?_
            refine v_goto (tgt := 24) dX5_firstOtherRound_59 (by decide) ?_
            exact jh (j + 1) (by omega) (by omega) (by rw [hj9, ex, if_pos (by omega)])
          · refine v_iload dX5_firstOtherRound_53 rfl ?_
            have ek3 : dfF (I (r + 4 + k)) (I (o + 4 + k)) n 0 < n := by rw [hj9, ex, if_neg h50]; omega
            have ek2 : drF I r o n (b - k) k = k := by rw [ek]; exact if_pos ek3
            exact v_iE dX5_firstOtherRound_55 rfl (by unfold frF; rw [hb, Int.toNat_natCast, hk9, ek2, if_pos (show k < b by omega)]) rfl
      refine v_iconst dX5_firstOtherRound_21 ?_
      refine v_ist5 dX5_firstOtherRound_22 rfl ?_
      exact M 0 (Nat.zero_le _) rfl
  refine v_startE hfl rfl (by decide) (Nat.le_of_ble_eq_true rfl) (ls := [some (.ref r), some (.ref o), some (.int (ii (n : Int))), none, none, none]) rfl ?_
  refine v_aload_n dX5_firstOtherRound_0 rfl ?_
  refine v_geti dX5_firstOtherRound_1 fr_X5_23 (by assumption) (by decide) rfl ?_
  refine v_aload_n dX5_firstOtherRound_4 rfl ?_
  refine v_geti dX5_firstOtherRound_5 fr_X5_23 (by assumption) (by decide) rfl ?_
  refine v_mmin dX5_firstOtherRound_8 lk_X5_36 (by decide) (Nat.le_of_ble_eq_true rfl) ?_
  rw [hb]
  refine v_istn3 dX5_firstOtherRound_11 rfl ?_
  refine v_iconst dX5_firstOtherRound_12 ?_
  refine v_ist4 dX5_firstOtherRound_13 rfl ?_
  exact L 0 (Nat.zero_le _) rfl
