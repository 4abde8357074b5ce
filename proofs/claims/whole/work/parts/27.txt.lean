/-! THE TEXT READER -/
theorem up_up {I : II} {a k : Nat} {x y : Int} : up (up I a k x) a k y = up I a k y := by
  funext b
  by_cases h : b = a
  · subst h
    funext j
    by_cases hj : j = k
    · subst hj; rw [up_eq, up_eq]
    · rw [up_nk hj, up_nk hj, up_nk hj]
  · rw [up_ne h, up_ne h, up_ne h]
/-- the buffer, its place, the ranking read last -/
def TI (I : II) (t : Nat) : Prop := (0 ≤ I t 3 ∧ I t 3 ≤ I t 4 ∧ I t 4 ≤ 60) ∧ (∀ k, k < 60 → 0 ≤ I (t + 1) k ∧ I (t + 1) k ≤ 126) ∧ (∀ k, k < 8 → 0 ≤ I (t + 2) k ∧ I (t + 2) k < 8) ∧ 0 ≤ I t 2 ∧ I t 2 ≤ 8
/-- between calls: the place read at does not matter -/
def TI0 (I : II) (t : Nat) : Prop := (0 ≤ I t 4 ∧ I t 4 ≤ 60) ∧ (∀ k, k < 60 → 0 ≤ I (t + 1) k ∧ I (t + 1) k ≤ 126) ∧ (∀ k, k < 8 → 0 ≤ I (t + 2) k ∧ I (t + 2) k < 8) ∧ 0 ≤ I t 2 ∧ I t 2 ≤ 8
theorem TI.w {I : II} {t : Nat} (h : TI I t) : TI0 I t := ⟨⟨by have := h.1; omega, h.1.2.2⟩, h.2⟩
theorem TI0_of {I J : II} {t : Nat} (h : TI0 I t) (h0 : J t = I t) (h1 : J (t + 1) = I (t + 1)) (h2 : J (t + 2) = I (t + 2)) : TI0 J t := by
  unfold TI0 at *
  rw [h0, h1, h2]
  exact h
def ch (I : II) (t : Nat) : Int := if I t 3 < I t 4 then I (t + 1) (I t 3).toNat else -1
def inc (I : II) (t : Nat) : II := up I t 3 (I t 3 + 1)
def fl (I : II) (t : Nat) : II := up I t 5 (I t 3)
theorem ch_rng {I : II} {t : Nat} (h : TI I t) : -1 ≤ ch I t ∧ ch I t ≤ 126 := by
  obtain ⟨⟨i0, i1, i2⟩, i3, -⟩ := h
  unfold ch
  split
  · have := i3 (I t 3).toNat (by omega)
    omega
  · omega
theorem ch_lt {I : II} {t : Nat} (h : 0 ≤ ch I t) : I t 3 < I t 4 := by
  unfold ch at h
  split at h
  · assumption
  · omega
theorem TI_inc {I : II} {t : Nat} (h : TI I t) (hc : I t 3 < I t 4) : TI (inc I t) t := by
  obtain ⟨⟨i0, i1, i2⟩, i3, i4, i5⟩ := h
  unfold inc TI
  rw [up_eq, up_nk (by omega), up_nk (by omega), up_ne (by omega), up_ne (by omega)]
  exact ⟨by omega, i3, i4, i5⟩
theorem TI_fl {I : II} {t : Nat} (h : TI I t) : TI (fl I t) t := by
  unfold fl TI
  rw [up_nk (by omega), up_nk (by omega), up_nk (by omega), up_ne (by omega), up_ne (by omega)]
  exact h
theorem inc_e {I : II} {t x : Nat} (h : x ≠ t) : inc I t x = I x := up_ne h
theorem fl_e {I : II} {t x : Nat} (h : x ≠ t) : fl I t x = I x := up_ne h
def nbA (I : II) (t : Nat) : Int := ch I t - 48
def nbR (I : II) (t : Nat) : Int × II := if nbA I t < 0 ∨ 9 < nbA I t then (-1, fl I t) else if nbA I t = 0 ∨ nbA (inc I t) t < 0 ∨ 9 < nbA (inc I t) t then (nbA I t, inc I t) else (10 * nbA I t + nbA (inc I t) t, inc (inc I t) t)
def paR (I : II) (t : Nat) (s : Int) : Int × II := if ch I t = s then (1, inc I t) else (0, fl I t)
def pnR (I : II) (t e : Nat) : Int × II := if I e 4 ≤ (nbR I t).1 then (-1, up (nbR I t).2 t 5 (I t 3)) else nbR I t
theorem nb_rng (I : II) (t : Nat) : -1 ≤ (nbR I t).1 ∧ (nbR I t).1 ≤ 99 := by
  unfold nbR
  split
  · show -1 ≤ (-1 : Int) ∧ (-1 : Int) ≤ 99
    decide
  · split
    · show -1 ≤ nbA I t ∧ nbA I t ≤ 99
      omega
    · show -1 ≤ 10 * nbA I t + nbA (inc I t) t ∧ 10 * nbA I t + nbA (inc I t) t ≤ 99
      omega
theorem nb_TI {I : II} {t : Nat} (h : TI I t) : TI (nbR I t).2 t := by
  unfold nbR
  split
  · exact TI_fl h
  · have h1 := TI_inc h (ch_lt (by unfold nbA at *; omega))
    split
    · exact h1
    · exact TI_inc h1 (ch_lt (by unfold nbA at *; omega))
theorem nb_e {I : II} {t x : Nat} (hx : x ≠ t) : (nbR I t).2 x = I x := by
  unfold nbR
  split
  · exact fl_e hx
  · split
    · exact inc_e hx
    · exact (inc_e hx).trans (inc_e hx)
theorem pa_TI {I : II} {t : Nat} {s : Int} (h : TI I t) (hs : 0 ≤ s) : TI (paR I t s).2 t := by
  unfold paR
  split
  · exact TI_inc h (ch_lt (by omega))
  · exact TI_fl h
theorem pa_e {I : II} {t x : Nat} {s : Int} (hx : x ≠ t) : (paR I t s).2 x = I x := by
  unfold paR
  split
  · exact inc_e hx
  · exact fl_e hx
theorem pa_01 (I : II) (t : Nat) (s : Int) : (paR I t s).1 = 0 ∨ (paR I t s).1 = 1 := by
  unfold paR
  split
  · exact Or.inr rfl
  · exact Or.inl rfl
theorem TI_er {I : II} {t : Nat} {z : Int} (h : TI I t) : TI (up I t 5 z) t := by
  unfold TI
  rw [up_nk (by omega), up_nk (by omega), up_nk (by omega), up_ne (by omega), up_ne (by omega)]
  exact h
theorem pn_TI {I : II} {t e : Nat} (h : TI I t) : TI (pnR I t e).2 t := by
  have h1 := nb_TI h
  unfold pnR
  split
  · exact TI_er h1
  · exact h1
theorem pn_e {I : II} {t e x : Nat} (hx : x ≠ t) : (pnR I t e).2 x = I x := by
  unfold pnR
  split
  · exact (up_ne hx).trans (nb_e hx)
  · exact nb_e hx
theorem pn_rng (I : II) (t e : Nat) : -1 ≤ (pnR I t e).1 ∧ ((pnR I t e).1 = -1 ∨ (pnR I t e).1 < I e 4) := by
  have := nb_rng I t
  unfold pnR
  split
  · exact ⟨Int.le_refl _, Or.inl rfl⟩
  · exact ⟨this.1, Or.inr (by omega)⟩
/-- different candidates, at least ls of them, and the sign behind them -/
def rkL (t : Nat) (nc ls : Int) : Nat → Nat → Nat → II → Int × II
  | 0, _, _, J => (0, J)
  | f + 1, k, s, J => if ch J t = 59 ∧ ls ≤ k then (1, up (inc J t) t 2 k) else if k = 8 ∨ ch J t - 97 < 0 ∨ nc ≤ ch J t - 97 ∨ ¬ btI s (ch J t - 97).toNat = 0 then (0, fl J t) else rkL t nc ls f (k + 1) (s ||| 2 ^ (ch J t - 97).toNat) (inc (up J (t + 2) k (ch J t - 97)) t)
def rkR (I : II) (t : Nat) (nc ls : Int) : Int × II := rkL t nc ls 9 0 0 I
theorem TI_rk {I : II} {t k : Nat} {z : Int} (h : TI I t) (hz : 0 ≤ z ∧ z < 8) : TI (up I (t + 2) k z) t := by
  obtain ⟨i0, i3, i4, i5⟩ := h
  unfold TI
  rw [up_ne (by omega), up_ne (by omega)]
  refine ⟨i0, i3, fun j hj => ?_, i5⟩
  by_cases e : j = k
  · subst e; rw [up_eq]; exact hz
  · rw [up_nk e]; exact i4 j hj
theorem TI_rl {I : II} {t : Nat} {z : Int} (h : TI I t) (hz : 0 ≤ z ∧ z ≤ 8) : TI (up I t 2 z) t := by
  obtain ⟨i0, i3, i4, i5⟩ := h
  unfold TI
  rw [up_nk (by omega), up_nk (by omega), up_eq, up_ne (by omega), up_ne (by omega)]
  exact ⟨i0, i3, i4, hz⟩
theorem rk_TI {t : Nat} {nc ls : Int} (hn : nc ≤ 8) : ∀ f k s (J : II), k + f ≤ 9 → TI J t → TI (rkL t nc ls f k s J).2 t
  | 0, _, _, _, _, h => h
  | f + 1, k, s, J, hk, h => by
    have hc := ch_rng h
    unfold rkL
    split
    · exact TI_rl (TI_inc h (ch_lt (by omega))) (by omega)
    · split
      · exact TI_fl h
      · refine rk_TI hn f (k + 1) _ _ (by omega) (TI_inc (TI_rk h (by omega)) ?_)
        rw [up_ne (by omega)]
        exact ch_lt (by omega)
theorem rk_e {t x : Nat} {nc ls : Int} (hx : x ≠ t) (hx2 : x ≠ t + 2) : ∀ f k s (J : II), (rkL t nc ls f k s J).2 x = J x
  | 0, _, _, _ => rfl
  | f + 1, k, s, J => by
    unfold rkL
    split
    · exact (up_ne hx).trans (inc_e hx)
    · split
      · exact fl_e hx
      · rw [rk_e hx hx2 f, inc_e hx, up_ne hx2]
theorem rk_01 {t : Nat} {nc ls : Int} : ∀ f k s (J : II), (rkL t nc ls f k s J).1 = 0 ∨ (rkL t nc ls f k s J).1 = 1
  | 0, _, _, _ => Or.inl rfl
  | f + 1, k, s, J => by
    unfold rkL
    split
    · exact Or.inr rfl
    · split
      · exact Or.inl rfl
      · exact rk_01 f _ _ _

set_option maxRecDepth 100000 in
set_option maxHeartbeats 4000000 in
theorem c_next {l : Launch} {g : GV} {S : SS} {I : II} {X : XX} {t : Nat} (hfl : l.stackTraces = false) (hT : isTxt S t) (hI : TI I t) : CE l g mX7_next 0 [.ref t] S I X (some (.int (ii (ch I t)))) I := by
  obtain ⟨t0, t1, t1a, t2, t2a⟩ := id hT
  obtain ⟨⟨i0, i1, i2⟩, i3, i4, i5⟩ := id hI
  obtain ⟨p, hp⟩ := Int.eq_ofNat_of_zero_le i0
  refine v_startE hfl rfl (by decide) (Nat.le_of_ble_eq_true rfl) (ls := [some (.ref t)]) rfl ?_
  refine v_aload_n dX7_next_0 rfl ?_
  refine v_geti dX7_next_1 fr_X7_25 (by assumption) (by decide) rfl ?_
  refine v_if_lt (tgt := 39) dX7_next_4 (by decide) (fun h4 => ?_) (fun h4 => ?_)
  · refine v_iconst dX7_next_39 ?_
    exact v_iE dX7_next_40 rfl (by unfold ch; first | (rw [if_pos (by omega), hp]; rfl) | rw [if_neg (by omega)]) (rfl)
  · refine v_aload_n dX7_next_7 rfl ?_
    refine v_geti dX7_next_8 fr_X7_25 (by assumption) (by decide) rfl ?_
    refine v_aload_n dX7_next_11 rfl ?_
    refine v_geti dX7_next_12 fr_X7_22 (by assumption) (by decide) rfl ?_
    refine v_ic_ge (tgt := 39) dX7_next_15 (by decide) (fun h15 => ?_) (fun h15 => ?_)
    · refine v_iconst dX7_next_39 ?_
      exact v_iE dX7_next_40 rfl (by unfold ch; first | (rw [if_pos (by omega), hp]; rfl) | rw [if_neg (by omega)]) (rfl)
    · refine v_aload_n dX7_next_18 rfl ?_
      refine v_geti dX7_next_19 fr_X7_25 (by assumption) (by decide) rfl ?_
      refine v_bipush dX7_next_22 (by decide) ?_
      refine v_ic_ge (tgt := 39) dX7_next_24 (by decide) (fun h24 => ?_) (fun h24 => ?_)
      · refine v_iconst dX7_next_39 ?_
        exact v_iE dX7_next_40 rfl (by unfold ch; first | (rw [if_pos (by omega), hp]; rfl) | rw [if_neg (by omega)]) (rfl)
      · refine v_aload_n dX7_next_27 rfl ?_
        refine v_getr dX7_next_28 fr_X7_9 (by assumption) (by decide) rfl (by assumption) ?_
        refine v_aload_n dX7_next_31 rfl ?_
        refine v_geti dX7_next_32 fr_X7_25 (by assumption) (by decide) rfl ?_
        refine v_iald (j := p) dX7_next_35 (by assumption) (by first | rfl | omega) (by omega) ?_
        refine v_goto (tgt := 40) dX7_next_36 (by decide) ?_
        exact v_iE dX7_next_40 rfl (by unfold ch; first | (rw [if_pos (by omega), hp]; rfl) | rw [if_neg (by omega)]) (rfl)

set_option maxRecDepth 100000 in
set_option maxHeartbeats 4000000 in
theorem c_failAt {l : Launch} {g : GV} {S : SS} {I : II} {X : XX} {t : Nat} {z : Int} (hfl : l.stackTraces = false) (hT : isTxt S t) : CE l g mX7_failAt 0 [.ref t, .int (ii z)] S I X (some (.int (ii 0))) (up I t 5 z) := by
  obtain ⟨t0, t1, t1a, t2, t2a⟩ := id hT
  refine v_startE hfl rfl (by decide) (Nat.le_of_ble_eq_true rfl) (ls := [some (.ref t), some (.int (ii z))]) rfl ?_
  refine v_aload_n dX7_failAt_0 rfl ?_
  refine v_iload_n dX7_failAt_1 rfl ?_
  refine v_puti dX7_failAt_2 fr_X7_18 (by assumption) (by decide) rfl ?_
  refine v_iconst dX7_failAt_5 ?_
  exact v_zE dX7_failAt_6 rfl (by first | exact Or.inl rfl | exact Or.inr rfl | omega) (rfl) (rfl)

set_option maxRecDepth 100000 in
set_option maxHeartbeats 4000000 in
theorem c_clear {l : Launch} {g : GV} {S : SS} {I : II} {X : XX} {t : Nat} (hfl : l.stackTraces = false) (hT : isTxt S t) : CE l g mX7_clear 0 [.ref t] S I X none (up I t 4 0) := by
  obtain ⟨t0, t1, t1a, t2, t2a⟩ := id hT
  refine v_startE hfl rfl (by decide) (Nat.le_of_ble_eq_true rfl) (ls := [some (.ref t)]) rfl ?_
  refine v_aload_n dX7_clear_0 rfl ?_
  refine v_iconst dX7_clear_1 ?_
  refine v_puti dX7_clear_2 fr_X7_22 (by assumption) (by decide) rfl ?_
  exact v_vE dX7_clear_5 rfl (rfl)

set_option maxRecDepth 100000 in
set_option maxHeartbeats 4000000 in
theorem c_addSign {l : Launch} {g : GV} {S : SS} {I : II} {X : XX} {t n : Nat} {z : Int} (hfl : l.stackTraces = false) (hT : isTxt S t) (hn : I t 4 = (n : Int)) (hn6 : n < 60) : CE l g mX7_addSign 0 [.ref t, .int (ii z)] S I X none (up (up I (t + 1) n z) t 4 (I t 4 + 1)) := by
  obtain ⟨t0, t1, t1a, t2, t2a⟩ := id hT
  refine v_startE hfl rfl (by decide) (Nat.le_of_ble_eq_true rfl) (ls := [some (.ref t), some (.int (ii z))]) rfl ?_
  refine v_aload_n dX7_addSign_0 rfl ?_
  refine v_geti dX7_addSign_1 fr_X7_22 (by assumption) (by decide) rfl ?_
  refine v_bipush dX7_addSign_4 (by decide) ?_
  refine v_ic_ge (tgt := 29) dX7_addSign_6 (by decide) (fun h6 => ?_) (fun h6 => ?_)
  · exfalso; omega
  · refine v_aload_n dX7_addSign_9 rfl ?_
    refine v_getr dX7_addSign_10 fr_X7_9 (by assumption) (by decide) rfl (by assumption) ?_
    refine v_aload_n dX7_addSign_13 rfl ?_
    refine v_geti dX7_addSign_14 fr_X7_22 (by assumption) (by decide) rfl ?_
    refine v_iload_n dX7_addSign_17 rfl ?_
    refine v_iast (j := n) dX7_addSign_18 (by assumption) (by first | rfl | omega) (by omega) ?_
    refine v_aload_n dX7_addSign_19 rfl ?_
    refine v_dup dX7_addSign_20 rfl ?_
    refine v_geti dX7_addSign_21 fr_X7_22 (by assumption) (by decide) rfl ?_
    rw [up_ne (by omega)]
    refine v_iconst dX7_addSign_24 ?_
    refine v_iadd dX7_addSign_25 ?_
    refine v_puti dX7_addSign_26 fr_X7_22 (by assumption) (by decide) rfl ?_
    exact v_vE dX7_addSign_29 rfl (rfl)

set_option maxRecDepth 100000 in
set_option maxHeartbeats 4000000 in
theorem c_pass {l : Launch} {g : GV} {S : SS} {I : II} {X : XX} {t : Nat} {s : Int} (hfl : l.stackTraces = false) (hT : isTxt S t) (hI : TI I t) (hs : 0 ≤ s ∧ s ≤ 126) : CE l g mX7_pass 1 [.ref t, .int (ii s)] S I X (some (.int (ii (paR I t s).1))) (paR I t s).2 := by
  obtain ⟨t0, t1, t1a, t2, t2a⟩ := id hT
  obtain ⟨⟨i0, i1, i2⟩, i3, i4, i5⟩ := id hI
  refine v_startE hfl rfl (by decide) (Nat.le_of_ble_eq_true rfl) (ls := [some (.ref t), some (.int (ii s))]) rfl ?_
  refine v_aload_n dX7_pass_0 rfl ?_
  refine v_cV0 dX7_pass_1 lk_X7_32 (by assumption) (by decide) rfl (c_next hfl hT hI) (by decide) (Nat.le_of_ble_eq_true rfl) ?_ rfl
  have hc := ch_rng hI
  refine v_iload_n dX7_pass_4 rfl ?_
  refine v_ic_eq (tgt := 17) dX7_pass_5 (by decide) (fun h5 => ?_) (fun h5 => ?_)
  · refine v_aload_n dX7_pass_17 rfl ?_
    refine v_dup dX7_pass_18 rfl ?_
    refine v_geti dX7_pass_19 fr_X7_25 (by assumption) (by decide) rfl ?_
    refine v_iconst dX7_pass_22 ?_
    refine v_iadd dX7_pass_23 ?_
    refine v_puti dX7_pass_24 fr_X7_25 (by assumption) (by decide) rfl ?_
    refine v_iconst dX7_pass_27 ?_
    exact v_zE dX7_pass_28 rfl (by first | exact Or.inl rfl | exact Or.inr rfl | omega) (by unfold paR; rw [if_pos h5]) (by unfold paR; rw [if_pos h5]; rfl)
  · refine v_aload_n dX7_pass_8 rfl ?_
    refine v_aload_n dX7_pass_9 rfl ?_
    refine v_geti dX7_pass_10 fr_X7_25 (by assumption) (by decide) rfl ?_
    refine v_cV1 dX7_pass_13 lk_X7_53 (by assumption) (by decide) rfl (c_failAt hfl hT) (by decide) (Nat.le_of_ble_eq_true rfl) ?_ rfl
    exact v_zE dX7_pass_16 rfl (by first | exact Or.inl rfl | exact Or.inr rfl | omega) (by unfold paR; rw [if_neg h5]) (by unfold paR; rw [if_neg h5]; rfl)

set_option maxRecDepth 100000 in
set_option maxHeartbeats 4000000 in
theorem c_readNumber {l : Launch} {g : GV} {S : SS} {I : II} {X : XX} {t : Nat} (hfl : l.stackTraces = false) (hT : isTxt S t) (hI : TI I t) : CE l g mX7_readNumber 1 [.ref t] S I X (some (.int (ii (nbR I t).1))) (nbR I t).2 := by
  obtain ⟨t0, t1, t1a, t2, t2a⟩ := id hT
  obtain ⟨⟨i0, i1, i2⟩, i3, i4, i5⟩ := id hI
  refine v_startE hfl rfl (by decide) (Nat.le_of_ble_eq_true rfl) (ls := [some (.ref t), none, none]) rfl ?_
  refine v_aload_n dX7_readNumber_0 rfl ?_
  refine v_cV0 dX7_readNumber_1 lk_X7_32 (by assumption) (by decide) rfl (c_next hfl hT hI) (by decide) (Nat.le_of_ble_eq_true rfl) ?_ rfl
  have hc := ch_rng hI
  have hA : nbA I t = ch I t - 48 := rfl
  refine v_bipush dX7_readNumber_4 (by decide) ?_
  refine v_isub dX7_readNumber_6 ?_
  refine v_istn1 dX7_readNumber_7 rfl ?_
  refine v_iload_n dX7_readNumber_8 rfl ?_
  refine v_if_lt (tgt := 18) dX7_readNumber_9 (by decide) (fun h9 => ?_) (fun h9 => ?_)
  · refine v_aload_n dX7_readNumber_18 rfl ?_
    refine v_aload_n dX7_readNumber_19 rfl ?_
    refine v_geti dX7_readNumber_20 fr_X7_25 (by assumption) (by decide) rfl ?_
    refine v_cV1 dX7_readNumber_23 lk_X7_53 (by assumption) (by decide) rfl (c_failAt hfl hT) (by decide) (Nat.le_of_ble_eq_true rfl) ?_ rfl
    refine v_pop dX7_readNumber_26 rfl ?_
    refine v_iconst dX7_readNumber_27 ?_
    exact v_iE dX7_readNumber_28 rfl (by unfold nbR; rw [if_pos (by omega)]) (by unfold nbR; rw [if_pos (by omega)]; rfl)
  · refine v_iload_n dX7_readNumber_12 rfl ?_
    refine v_bipush dX7_readNumber_13 (by decide) ?_
    refine v_ic_le (tgt := 29) dX7_readNumber_15 (by decide) (fun h15 => ?_) (fun h15 => ?_)
    · refine v_aload_n dX7_readNumber_29 rfl ?_
      refine v_dup dX7_readNumber_30 rfl ?_
      refine v_geti dX7_readNumber_31 fr_X7_25 (by assumption) (by decide) rfl ?_
      refine v_iconst dX7_readNumber_34 ?_
      refine v_iadd dX7_readNumber_35 ?_
      refine v_puti dX7_readNumber_36 fr_X7_25 (by assumption) (by decide) rfl ?_
      rw [show up I t 3 (I t 3 + 1) = inc I t from rfl]
      have hJ := TI_inc hI (ch_lt (by omega))
      have hd := ch_rng hJ
      have hB : nbA (inc I t) t = ch (inc I t) t - 48 := rfl
      refine v_aload_n dX7_readNumber_39 rfl ?_
      refine v_cV0 dX7_readNumber_40 lk_X7_32 (by assumption) (by decide) rfl (c_next hfl hT hJ) (by decide) (Nat.le_of_ble_eq_true rfl) ?_ rfl
      refine v_bipush dX7_readNumber_43 (by decide) ?_
      refine v_isub dX7_readNumber_45 ?_
      refine v_istn2 dX7_readNumber_46 rfl ?_
      refine v_iload_n dX7_readNumber_47 rfl ?_
      refine v_if_eq (tgt := 61) dX7_readNumber_48 (by decide) (fun h48 => ?_) (fun h48 => ?_)
      · refine v_iload_n dX7_readNumber_61 rfl ?_
        exact v_iE dX7_readNumber_62 rfl (by unfold nbR; rw [if_neg (by omega), if_pos (by omega)]; rfl) (by unfold nbR; rw [if_neg (by omega), if_pos (by omega)])
      · refine v_iload_n dX7_readNumber_51 rfl ?_
        refine v_if_lt (tgt := 61) dX7_readNumber_52 (by decide) (fun h52 => ?_) (fun h52 => ?_)
        · refine v_iload_n dX7_readNumber_61 rfl ?_
          exact v_iE dX7_readNumber_62 rfl (by unfold nbR; rw [if_neg (by omega), if_pos (by omega)]; rfl) (by unfold nbR; rw [if_neg (by omega), if_pos (by omega)])
        · refine v_iload_n dX7_readNumber_55 rfl ?_
          refine v_bipush dX7_readNumber_56 (by decide) ?_
          refine v_ic_le (tgt := 63) dX7_readNumber_58 (by decide) (fun h58 => ?_) (fun h58 => ?_)
          · refine v_aload_n dX7_readNumber_63 rfl ?_
            refine v_dup dX7_readNumber_64 rfl ?_
            refine v_geti dX7_readNumber_65 fr_X7_25 (by assumption) (by decide) rfl ?_
            refine v_iconst dX7_readNumber_68 ?_
            refine v_iadd dX7_readNumber_69 ?_
            refine v_puti dX7_readNumber_70 fr_X7_25 (by assumption) (by decide) rfl ?_
            refine v_bipush dX7_readNumber_73 (by decide) ?_
            refine v_iload_n dX7_readNumber_75 rfl ?_
            refine v_imul dX7_readNumber_76 ?_
            refine v_iload_n dX7_readNumber_77 rfl ?_
            refine v_iadd dX7_readNumber_78 ?_
            exact v_iE dX7_readNumber_79 rfl (by unfold nbR; rw [if_neg (by omega), if_neg (by omega)]; rfl) (by unfold nbR; rw [if_neg (by omega), if_neg (by omega)]; rfl)
          · refine v_iload_n dX7_readNumber_61 rfl ?_
            exact v_iE dX7_readNumber_62 rfl (by unfold nbR; rw [if_neg (by omega), if_pos (by omega)]; rfl) (by unfold nbR; rw [if_neg (by omega), if_pos (by omega)])
    · refine v_aload_n dX7_readNumber_18 rfl ?_
      refine v_aload_n dX7_readNumber_19 rfl ?_
      refine v_geti dX7_readNumber_20 fr_X7_25 (by assumption) (by decide) rfl ?_
      refine v_cV1 dX7_readNumber_23 lk_X7_53 (by assumption) (by decide) rfl (c_failAt hfl hT) (by decide) (Nat.le_of_ble_eq_true rfl) ?_ rfl
      refine v_pop dX7_readNumber_26 rfl ?_
      refine v_iconst dX7_readNumber_27 ?_
      exact v_iE dX7_readNumber_28 rfl (by unfold nbR; rw [if_pos (by omega)]) (by unfold nbR; rw [if_pos (by omega)]; rfl)

set_option maxRecDepth 100000 in
set_option maxHeartbeats 4000000 in
theorem c_readPileNumber {l : Launch} {g : GV} {S : SS} {I : II} {X : XX} {t e : Nat} (hfl : l.stackTraces = false) (hT : isTxt S t) (hE : isEl S e) (hne : e ≠ t) (h4 : 0 ≤ I e 4 ∧ I e 4 ≤ 25) (hI : TI I t) : CE l g mX7_readPileNumber 2 [.ref t, .ref e] S I X (some (.int (ii (pnR I t e).1))) (pnR I t e).2 := by
  obtain ⟨t0, t1, t1a, t2, t2a⟩ := id hT
  obtain ⟨⟨i0, i1, i2⟩, i3, i4, i5⟩ := id hI
  obtain ⟨y0, y1, y1a, y2, y2a, y3, y3a, y4, y4a, y5, y5a, yr⟩ := id hE
  refine v_startE hfl rfl (by decide) (Nat.le_of_ble_eq_true rfl) (ls := [some (.ref t), some (.ref e), none, none]) rfl ?_
  refine v_aload_n dX7_readPileNumber_0 rfl ?_
  refine v_geti dX7_readPileNumber_1 fr_X7_25 (by assumption) (by decide) rfl ?_
  refine v_istn2 dX7_readPileNumber_4 rfl ?_
  refine v_aload_n dX7_readPileNumber_5 rfl ?_
  refine v_cV0 dX7_readPileNumber_6 lk_X7_57 (by assumption) (by decide) rfl (c_readNumber hfl hT hI) (by decide) (Nat.le_of_ble_eq_true rfl) ?_ rfl
  refine v_istn3 dX7_readPileNumber_9 rfl ?_
  have hn := nb_rng I t
  refine v_iload_n dX7_readPileNumber_10 rfl ?_
  refine v_aload_n dX7_readPileNumber_11 rfl ?_
  refine v_geti dX7_readPileNumber_12 fr_X7_48 (by assumption) (by decide) rfl ?_
  rw [nb_e hne]
  refine v_ic_lt (tgt := 26) dX7_readPileNumber_15 (by decide) (fun h15 => ?_) (fun h15 => ?_)
  · refine v_iload_n dX7_readPileNumber_26 rfl ?_
    exact v_iE dX7_readPileNumber_27 rfl (by unfold pnR; rw [if_neg (by omega)]) (by unfold pnR; rw [if_neg (by omega)])
  · refine v_aload_n dX7_readPileNumber_18 rfl ?_
    refine v_iload_n dX7_readPileNumber_19 rfl ?_
    refine v_cV1 dX7_readPileNumber_20 lk_X7_53 (by assumption) (by decide) rfl (c_failAt hfl hT) (by decide) (Nat.le_of_ble_eq_true rfl) ?_ rfl
    refine v_pop dX7_readPileNumber_23 rfl ?_
    refine v_iconst dX7_readPileNumber_24 ?_
    exact v_iE dX7_readPileNumber_25 rfl (by unfold pnR; rw [if_pos (by omega)]) (by unfold pnR; rw [if_pos (by omega)])

set_option maxRecDepth 100000 in
set_option maxHeartbeats 4000000 in
theorem c_readRanking {l : Launch} {g : GV} {S : SS} {I : II} {X : XX} {t : Nat} {nc ls : Int} (hfl : l.stackTraces = false) (hT : isTxt S t) (hI0 : TI I t) (hnc : 0 ≤ nc ∧ nc ≤ 8) (hls : 0 ≤ ls ∧ ls ≤ 8) : CE l g mX7_readRanking 1 [.ref t, .int (ii nc), .int (ii ls)] S I X (some (.int (ii (rkR I t nc ls).1))) (rkR I t nc ls).2 := by
  obtain ⟨t0, t1, t1a, t2, t2a⟩ := id hT
  have L : ∀ k : Nat, k ≤ 8 → ∀ (s : Nat) (J : II), s < 256 → TI J t → V l g mX7_readRanking 1 (Zm g (QE (some (.int (ii (rkL t nc ls (9 - k) k s J).1))) S (rkL t nc ls (9 - k) k s J).2 X)) 0 0 5 [some (.ref t), some (.int (ii nc)), some (.int (ii ls)), some (.int (ii (s : Int))), some (.int (ii (k : Int))), none, none] [] S J X := by
    refine loop_up fun k hk ih => ?_
    intro s J hs hI
    refine v_iload dX7_readRanking_5 rfl ?_
    refine v_bipush dX7_readRanking_7 (by decide) ?_
    refine v_ic_gt (tgt := 124) dX7_readRanking_9 (by decide) (fun h9 => ?_) (fun h9 => ?_)
    · refine v_iconst dX7_readRanking_124 ?_
      exfalso; omega
    · have hc := ch_rng hI
      have ex : rkL t nc ls (9 - k) k s J = if ch J t = 59 ∧ ls ≤ k then (1, up (inc J t) t 2 k) else if k = 8 ∨ ch J t - 97 < 0 ∨ nc ≤ ch J t - 97 ∨ ¬ btI s (ch J t - 97).toNat = 0 then (0, fl J t) else rkL t nc ls (9 - (k + 1)) (k + 1) (s ||| 2 ^ (ch J t - 97).toNat) (inc (up J (t + 2) k (ch J t - 97)) t) := by
        rw [show 9 - k = (9 - (k + 1)) + 1 by omega]
        rfl
      refine v_aload_n dX7_readRanking_12 rfl ?_
      refine v_cV0 dX7_readRanking_13 lk_X7_32 (by assumption) (by decide) rfl (c_next hfl hT hI) (by decide) (Nat.le_of_ble_eq_true rfl) ?_ rfl
      refine v_ist5 dX7_readRanking_16 rfl ?_
      refine v_iload dX7_readRanking_18 rfl ?_
      refine v_bipush dX7_readRanking_20 (by decide) ?_
      refine v_ic_ne (tgt := 49) dX7_readRanking_22 (by decide) (fun h22 => ?_) (fun h22 => ?_)
      · refine v_iload dX7_readRanking_49 rfl ?_
        refine v_bipush dX7_readRanking_51 (by decide) ?_
        refine v_isub dX7_readRanking_53 ?_
        refine v_ist6 dX7_readRanking_54 rfl ?_
        refine v_iload dX7_readRanking_56 rfl ?_
        refine v_bipush dX7_readRanking_58 (by decide) ?_
        refine v_ic_eq (tgt := 83) dX7_readRanking_60 (by decide) (fun h60 => ?_) (fun h60 => ?_)
        · refine v_aload_n dX7_readRanking_83 rfl ?_
          refine v_aload_n dX7_readRanking_84 rfl ?_
          refine v_geti dX7_readRanking_85 fr_X7_25 (by assumption) (by decide) rfl ?_
          refine v_cV1 dX7_readRanking_88 lk_X7_53 (by assumption) (by decide) rfl (c_failAt hfl hT) (by decide) (Nat.le_of_ble_eq_true rfl) ?_ rfl
          exact v_zE dX7_readRanking_91 rfl (by first | exact Or.inl rfl | exact Or.inr rfl | omega) (by rw [ex, if_neg (by omega), if_pos (by omega)]) (by rw [ex, if_neg (by omega), if_pos (by omega)]; rfl)
        · refine v_iload dX7_readRanking_63 rfl ?_
          refine v_if_lt (tgt := 83) dX7_readRanking_65 (by decide) (fun h65 => ?_) (fun h65 => ?_)
          · refine v_aload_n dX7_readRanking_83 rfl ?_
            refine v_aload_n dX7_readRanking_84 rfl ?_
            refine v_geti dX7_readRanking_85 fr_X7_25 (by assumption) (by decide) rfl ?_
            refine v_cV1 dX7_readRanking_88 lk_X7_53 (by assumption) (by decide) rfl (c_failAt hfl hT) (by decide) (Nat.le_of_ble_eq_true rfl) ?_ rfl
            exact v_zE dX7_readRanking_91 rfl (by first | exact Or.inl rfl | exact Or.inr rfl | omega) (by rw [ex, if_neg (by omega), if_pos (by omega)]) (by rw [ex, if_neg (by omega), if_pos (by omega)]; rfl)
          · refine v_iload dX7_readRanking_68 rfl ?_
            refine v_iload_n dX7_readRanking_70 rfl ?_
            refine v_ic_ge (tgt := 83) dX7_readRanking_71 (by decide) (fun h71 => ?_) (fun h71 => ?_)
            · refine v_aload_n dX7_readRanking_83 rfl ?_
              refine v_aload_n dX7_readRanking_84 rfl ?_
              refine v_geti dX7_readRanking_85 fr_X7_25 (by assumption) (by decide) rfl ?_
              refine v_cV1 dX7_readRanking_88 lk_X7_53 (by assumption) (by decide) rfl (c_failAt hfl hT) (by decide) (Nat.le_of_ble_eq_true rfl) ?_ rfl
              exact v_zE dX7_readRanking_91 rfl (by first | exact Or.inl rfl | exact Or.inr rfl | omega) (by rw [ex, if_neg (by omega), if_pos (by omega)]) (by rw [ex, if_neg (by omega), if_pos (by omega)]; rfl)
            · obtain ⟨d, hd⟩ := Int.eq_ofNat_of_zero_le (show 0 ≤ ch J t - 97 by omega)
              rw [hd]
              have h01 := btI_01 s d
              have hdd : (ch J t - 97).toNat = d := by rw [hd]; rfl
              rw [hd, Int.toNat_natCast] at ex
              refine v_iload_n dX7_readRanking_74 rfl ?_
              refine v_iload dX7_readRanking_75 rfl ?_
              refine v_cN2 dX7_readRanking_77 nb_X7_92 lk_X7_92 (c_contains hfl hs (by omega)) (by decide) (Nat.le_of_ble_eq_true rfl) ?_ rfl
              refine v_if_eq (tgt := 92) dX7_readRanking_80 (by decide) (fun h80 => ?_) (fun h80 => ?_)
              · refine v_iload_n dX7_readRanking_92 rfl ?_
                refine v_iconst dX7_readRanking_93 ?_
                refine v_iload dX7_readRanking_94 rfl ?_
                refine v_ishl (z := ((2 ^ d : Nat) : Int)) dX7_readRanking_96 (shl_b d (by omega)) ?_
                refine v_ior (z := ((s ||| 2 ^ d : Nat) : Int)) dX7_readRanking_97 (or_b _ hs d (by omega)) ?_
                refine v_istn3 dX7_readRanking_98 rfl ?_
                refine v_aload_n dX7_readRanking_99 rfl ?_
                refine v_getr dX7_readRanking_100 fr_X7_15 (by assumption) (by decide) rfl (by assumption) ?_
                refine v_iload dX7_readRanking_103 rfl ?_
                refine v_iload dX7_readRanking_105 rfl ?_
                refine v_iast (j := k) dX7_readRanking_107 (by assumption) (by first | rfl | omega) (by omega) ?_
                refine v_aload_n dX7_readRanking_108 rfl ?_
                refine v_dup dX7_readRanking_109 rfl ?_
                refine v_geti dX7_readRanking_110 fr_X7_25 (by assumption) (by decide) rfl ?_
                refine v_iconst dX7_readRanking_113 ?_
                refine v_iadd dX7_readRanking_114 ?_
                refine v_puti dX7_readRanking_115 fr_X7_25 (by assumption) (by decide) rfl ?_
                refine v_iinc4 dX7_readRanking_118 rfl ?_
                refine v_goto (tgt := 5) dX7_readRanking_121 (by decide) ?_
                rw [if_neg (by omega), if_neg (by omega)] at ex
                rw [ex]
                exact v_fgt2 (ih (k + 1) (by omega) (by omega) _ _ (or_lt _ hs d (by omega)) (TI_inc (TI_rk hI (by omega)) (by rw [up_ne (by omega)]; exact ch_lt (by omega)))) (fgt_c (Or.inr rfl) (fgt_c (Or.inr rfl) (fgt_c (Or.inr rfl) (fgt_c (Or.inr rfl) (fgt_c (Or.inr rfl) (fgt_c (Or.inl rfl) (fgt_c (Or.inl rfl) (fgt_n))))))))
              · refine v_aload_n dX7_readRanking_83 rfl ?_
                refine v_aload_n dX7_readRanking_84 rfl ?_
                refine v_geti dX7_readRanking_85 fr_X7_25 (by assumption) (by decide) rfl ?_
                refine v_cV1 dX7_readRanking_88 lk_X7_53 (by assumption) (by decide) rfl (c_failAt hfl hT) (by decide) (Nat.le_of_ble_eq_true rfl) ?_ rfl
                exact v_zE dX7_readRanking_91 rfl (by first | exact Or.inl rfl | exact Or.inr rfl | omega) (by rw [ex, if_neg (by omega), if_pos (by omega)]) (by rw [ex, if_neg (by omega), if_pos (by omega)]; rfl)
      · refine v_iload dX7_readRanking_25 rfl ?_
        refine v_iload_n dX7_readRanking_27 rfl ?_
        refine v_ic_lt (tgt := 49) dX7_readRanking_28 (by decide) (fun h28 => ?_) (fun h28 => ?_)
        · refine v_iload dX7_readRanking_49 rfl ?_
          refine v_bipush dX7_readRanking_51 (by decide) ?_
          refine v_isub dX7_readRanking_53 ?_
          refine v_ist6 dX7_readRanking_54 rfl ?_
          refine v_iload dX7_readRanking_56 rfl ?_
          refine v_bipush dX7_readRanking_58 (by decide) ?_
          refine v_ic_eq (tgt := 83) dX7_readRanking_60 (by decide) (fun h60 => ?_) (fun h60 => ?_)
          · refine v_aload_n dX7_readRanking_83 rfl ?_
            refine v_aload_n dX7_readRanking_84 rfl ?_
            refine v_geti dX7_readRanking_85 fr_X7_25 (by assumption) (by decide) rfl ?_
            refine v_cV1 dX7_readRanking_88 lk_X7_53 (by assumption) (by decide) rfl (c_failAt hfl hT) (by decide) (Nat.le_of_ble_eq_true rfl) ?_ rfl
            exact v_zE dX7_readRanking_91 rfl (by first | exact Or.inl rfl | exact Or.inr rfl | omega) (by rw [ex, if_neg (by omega), if_pos (by omega)]) (by rw [ex, if_neg (by omega), if_pos (by omega)]; rfl)
          · refine v_iload dX7_readRanking_63 rfl ?_
            refine v_if_lt (tgt := 83) dX7_readRanking_65 (by decide) (fun h65 => ?_) (fun h65 => ?_)
            · refine v_aload_n dX7_readRanking_83 rfl ?_
              refine v_aload_n dX7_readRanking_84 rfl ?_
              refine v_geti dX7_readRanking_85 fr_X7_25 (by assumption) (by decide) rfl ?_
              refine v_cV1 dX7_readRanking_88 lk_X7_53 (by assumption) (by decide) rfl (c_failAt hfl hT) (by decide) (Nat.le_of_ble_eq_true rfl) ?_ rfl
              exact v_zE dX7_readRanking_91 rfl (by first | exact Or.inl rfl | exact Or.inr rfl | omega) (by rw [ex, if_neg (by omega), if_pos (by omega)]) (by rw [ex, if_neg (by omega), if_pos (by omega)]; rfl)
            · refine v_iload dX7_readRanking_68 rfl ?_
              refine v_iload_n dX7_readRanking_70 rfl ?_
              refine v_ic_ge (tgt := 83) dX7_readRanking_71 (by decide) (fun h71 => ?_) (fun h71 => ?_)
              · refine v_aload_n dX7_readRanking_83 rfl ?_
                refine v_aload_n dX7_readRanking_84 rfl ?_
                refine v_geti dX7_readRanking_85 fr_X7_25 (by assumption) (by decide) rfl ?_
                refine v_cV1 dX7_readRanking_88 lk_X7_53 (by assumption) (by decide) rfl (c_failAt hfl hT) (by decide) (Nat.le_of_ble_eq_true rfl) ?_ rfl
                exact v_zE dX7_readRanking_91 rfl (by first | exact Or.inl rfl | exact Or.inr rfl | omega) (by rw [ex, if_neg (by omega), if_pos (by omega)]) (by rw [ex, if_neg (by omega), if_pos (by omega)]; rfl)
              · obtain ⟨d, hd⟩ := Int.eq_ofNat_of_zero_le (show 0 ≤ ch J t - 97 by omega)
                rw [hd]
                have h01 := btI_01 s d
                have hdd : (ch J t - 97).toNat = d := by rw [hd]; rfl
                rw [hd, Int.toNat_natCast] at ex
                refine v_iload_n dX7_readRanking_74 rfl ?_
                refine v_iload dX7_readRanking_75 rfl ?_
                refine v_cN2 dX7_readRanking_77 nb_X7_92 lk_X7_92 (c_contains hfl hs (by omega)) (by decide) (Nat.le_of_ble_eq_true rfl) ?_ rfl
                refine v_if_eq (tgt := 92) dX7_readRanking_80 (by decide) (fun h80 => ?_) (fun h80 => ?_)
                · refine v_iload_n dX7_readRanking_92 rfl ?_
                  refine v_iconst dX7_readRanking_93 ?_
                  refine v_iload dX7_readRanking_94 rfl ?_
                  refine v_ishl (z := ((2 ^ d : Nat) : Int)) dX7_readRanking_96 (shl_b d (by omega)) ?_
                  refine v_ior (z := ((s ||| 2 ^ d : Nat) : Int)) dX7_readRanking_97 (or_b _ hs d (by omega)) ?_
                  refine v_istn3 dX7_readRanking_98 rfl ?_
                  refine v_aload_n dX7_readRanking_99 rfl ?_
                  refine v_getr dX7_readRanking_100 fr_X7_15 (by assumption) (by decide) rfl (by assumption) ?_
                  refine v_iload dX7_readRanking_103 rfl ?_
                  refine v_iload dX7_readRanking_105 rfl ?_
                  refine v_iast (j := k) dX7_readRanking_107 (by assumption) (by first | rfl | omega) (by omega) ?_
                  refine v_aload_n dX7_readRanking_108 rfl ?_
                  refine v_dup dX7_readRanking_109 rfl ?_
                  refine v_geti dX7_readRanking_110 fr_X7_25 (by assumption) (by decide) rfl ?_
                  refine v_iconst dX7_readRanking_113 ?_
                  refine v_iadd dX7_readRanking_114 ?_
                  refine v_puti dX7_readRanking_115 fr_X7_25 (by assumption) (by decide) rfl ?_
                  refine v_iinc4 dX7_readRanking_118 rfl ?_
                  refine v_goto (tgt := 5) dX7_readRanking_121 (by decide) ?_
                  rw [if_neg (by omega), if_neg (by omega)] at ex
                  rw [ex]
                  exact v_fgt2 (ih (k + 1) (by omega) (by omega) _ _ (or_lt _ hs d (by omega)) (TI_inc (TI_rk hI (by omega)) (by rw [up_ne (by omega)]; exact ch_lt (by omega)))) (fgt_c (Or.inr rfl) (fgt_c (Or.inr rfl) (fgt_c (Or.inr rfl) (fgt_c (Or.inr rfl) (fgt_c (Or.inr rfl) (fgt_c (Or.inl rfl) (fgt_c (Or.inl rfl) (fgt_n))))))))
                · refine v_aload_n dX7_readRanking_83 rfl ?_
                  refine v_aload_n dX7_readRanking_84 rfl ?_
                  refine v_geti dX7_readRanking_85 fr_X7_25 (by assumption) (by decide) rfl ?_
                  refine v_cV1 dX7_readRanking_88 lk_X7_53 (by assumption) (by decide) rfl (c_failAt hfl hT) (by decide) (Nat.le_of_ble_eq_true rfl) ?_ rfl
                  exact v_zE dX7_readRanking_91 rfl (by first | exact Or.inl rfl | exact Or.inr rfl | omega) (by rw [ex, if_neg (by omega), if_pos (by omega)]) (by rw [ex, if_neg (by omega), if_pos (by omega)]; rfl)
        · refine v_aload_n dX7_readRanking_31 rfl ?_
          refine v_dup dX7_readRanking_32 rfl ?_
          refine v_geti dX7_readRanking_33 fr_X7_25 (by assumption) (by decide) rfl ?_
          refine v_iconst dX7_readRanking_36 ?_
          refine v_iadd dX7_readRanking_37 ?_
          refine v_puti dX7_readRanking_38 fr_X7_25 (by assumption) (by decide) rfl ?_
          refine v_aload_n dX7_readRanking_41 rfl ?_
          refine v_iload dX7_readRanking_42 rfl ?_
          refine v_puti dX7_readRanking_44 fr_X7_70 (by assumption) (by decide) rfl ?_
          refine v_iconst dX7_readRanking_47 ?_
          exact v_zE dX7_readRanking_48 rfl (by first | exact Or.inl rfl | exact Or.inr rfl | omega) (by rw [ex, if_pos (by omega)]) (by rw [ex, if_pos (by omega)]; rfl)
  refine v_startE hfl rfl (by decide) (Nat.le_of_ble_eq_true rfl) (ls := [some (.ref t), some (.int (ii nc)), some (.int (ii ls)), none, none, none, none]) rfl ?_
  refine v_iconst dX7_readRanking_0 ?_
  refine v_istn3 dX7_readRanking_1 rfl ?_
  refine v_iconst dX7_readRanking_2 ?_
  refine v_ist4 dX7_readRanking_3 rfl ?_
  exact v_fgt2 (L 0 (Nat.zero_le _) 0 I (by decide) hI0) (fgt_c (Or.inr rfl) (fgt_c (Or.inr rfl) (fgt_c (Or.inr rfl) (fgt_c (Or.inr rfl) (fgt_c (Or.inr rfl) (fgt_c (Or.inl rfl) (fgt_c (Or.inl rfl) (fgt_n))))))))

/-! ELECTIONS: what stays well formed -/
theorem up_p {I : II} {a k b j : Nat} {z : Int} {P : Int → Prop} (h : P (I b j)) (hz : b = a → j = k → P z) : P (up I a k z b j) := by
  by_cases h1 : b = a
  · subst h1
    by_cases h2 : j = k
    · subst h2; rw [up_eq]; exact hz rfl rfl
    · rw [up_nk h2]; exact h
  · rw [up_ne h1]; exact h
theorem WfE_up {I : II} {e a k : Nat} {z : Int} (h : WfE I e) (h0 : a = e → (k = 0 → 2 ≤ z ∧ z ≤ 8) ∧ (k = 2 → 0 ≤ z ∧ z < 256) ∧ (k = 4 → 0 ≤ z ∧ z ≤ 25)) (h1 : a = e + 1 → (k = 0 → 0 ≤ z ∧ z ≤ 3) ∧ (k = 1 → 0 ≤ z ∧ z ≤ 1) ∧ (k = 2 → 0 ≤ z ∧ z ≤ 1) ∧ (k = 3 → 1 ≤ z ∧ z ≤ 7)) (h2 : a = e + 2 → 0 ≤ z ∧ z < 8) (h3 : a = e + 3 → 0 ≤ z ∧ z ≤ 99) (h4 : a = e + 4 → 0 ≤ z ∧ z ≤ 8) (h6 : e + 6 ≤ a → a < e + 31 → 0 ≤ z ∧ z < 8) : WfE (up I a k z) e := by
  obtain ⟨w0, w1, w2, w3, w4, w5, w6, w7, w8, w9, w10, w11, w12, w13⟩ := h
  unfold WfE
  refine ⟨up_p (P := fun x => 2 ≤ x) w0 ?_, up_p (P := fun x => x ≤ 8) w1 ?_, up_p (P := fun x => 0 ≤ x) w2 ?_, up_p (P := fun x => x ≤ 25) w3 ?_, up_p (P := fun x => 0 ≤ x) w4 ?_, up_p (P := fun x => x < 256) w5 ?_, fun p hp => up_p (P := fun x => 0 ≤ x ∧ x ≤ 99) (w6 p hp) ?_, fun p hp => up_p (P := fun x => 0 ≤ x ∧ x ≤ 8) (w7 p hp) ?_, fun p j hp hj => up_p (P := fun x => 0 ≤ x ∧ x < 8) (w8 p j hp hj) ?_, fun j hj => up_p (P := fun x => 0 ≤ x ∧ x < 8) (w9 j hj) ?_, up_p (P := fun x => 0 ≤ x ∧ x ≤ 3) w10 ?_, up_p (P := fun x => 0 ≤ x ∧ x ≤ 1) w11 ?_, up_p (P := fun x => 0 ≤ x ∧ x ≤ 1) w12 ?_, up_p (P := fun x => 1 ≤ x) w13.1 ?_, up_p (P := fun x => x ≤ 7) w13.2 ?_⟩ <;> intro q1 q2
  · exact ((h0 q1.symm).1 q2.symm).1
  · exact ((h0 q1.symm).1 q2.symm).2
  · exact ((h0 q1.symm).2.2 q2.symm).1
  · exact ((h0 q1.symm).2.2 q2.symm).2
  · exact ((h0 q1.symm).2.1 q2.symm).1
  · exact ((h0 q1.symm).2.1 q2.symm).2
  · exact h3 q1.symm
  · exact h4 q1.symm
  · exact h6 (by omega) (by omega)
  · exact h2 q1.symm
  · exact (h1 q1.symm).1 q2.symm
  · exact (h1 q1.symm).2.1 q2.symm
  · exact (h1 q1.symm).2.2.1 q2.symm
  · exact ((h1 q1.symm).2.2.2 q2.symm).1
  · exact ((h1 q1.symm).2.2.2 q2.symm).2
theorem WfE_o {I : II} {e a k : Nat} {z : Int} (h : WfE I e) (ha : a < e ∨ e + 31 ≤ a) : WfE (up I a k z) e :=
  WfE_up h (fun q => by omega) (fun q => by omega) (fun q => by omega) (fun q => by omega) (fun q => by omega) (fun q => by omega)
theorem WfE_size {I : II} {e p : Nat} {z : Int} (h : WfE I e) (hz : 0 ≤ z ∧ z ≤ 99) : WfE (up I (e + 3) p z) e :=
  WfE_up h (fun q => by omega) (fun q => by omega) (fun q => by omega) (fun q => hz) (fun q => by omega) (fun q => by omega)
theorem WfE_len {I : II} {e p : Nat} {z : Int} (h : WfE I e) (hz : 0 ≤ z ∧ z ≤ 8) : WfE (up I (e + 4) p z) e :=
  WfE_up h (fun q => by omega) (fun q => by omega) (fun q => by omega) (fun q => by omega) (fun q => hz) (fun q => by omega)
theorem WfE_rank {I : II} {e p k : Nat} {z : Int} (h : WfE I e) (hz : 0 ≤ z ∧ z < 8) : WfE (up I (e + 6 + p) k z) e :=
  WfE_up h (fun q => by omega) (fun q => by omega) (fun q => by omega) (fun q => by omega) (fun q => by omega) (fun _ _ => hz)
theorem WfE_lot {I : II} {e k : Nat} {z : Int} (h : WfE I e) (hz : 0 ≤ z ∧ z < 8) : WfE (up I (e + 2) k z) e :=
  WfE_up h (fun q => by omega) (fun q => by omega) (fun q => hz) (fun q => by omega) (fun q => by omega) (fun q => by omega)
theorem WfE_piles {I : II} {e : Nat} {z : Int} (h : WfE I e) (hz : 0 ≤ z ∧ z ≤ 25) : WfE (up I e 4 z) e :=
  WfE_up h (fun _ => ⟨fun q => by omega, fun q => by omega, fun _ => hz⟩) (fun q => by omega) (fun q => by omega) (fun q => by omega) (fun q => by omega) (fun q => by omega)
theorem rankM_e {I : II} {e p a m x : Nat} (h1 : x ≠ e + 4) (h2 : x ≠ e + 6 + p) : rankM I e p a m x = I x := by
  have L : ∀ k, foldUp (fun k J => up J (e + 6 + p) k (J a k)) (up I (e + 4) p (m : Int)) k x = I x := by
    intro k
    induction k with
    | zero => exact up_ne h1
    | succ k ih => exact (up_ne h2).trans ih
  exact L m
theorem WfE_rankM {I : II} {e p a m : Nat} (h : WfE I e) (hp : p < 25) (ha : e + 31 ≤ a) (hm : m ≤ 8) (hr : ∀ k, k < 8 → 0 ≤ I a k ∧ I a k < 8) : WfE (rankM I e p a m) e := by
  have L : ∀ k, k ≤ 8 → WfE (foldUp (fun k J => up J (e + 6 + p) k (J a k)) (up I (e + 4) p (m : Int)) k) e ∧ foldUp (fun k J => up J (e + 6 + p) k (J a k)) (up I (e + 4) p (m : Int)) k a = I a := by
    intro k
    induction k with
    | zero => exact fun _ => ⟨WfE_len h (by omega), up_ne (by omega)⟩
    | succ k ih =>
      intro hk
      obtain ⟨i1, i2⟩ := ih (by omega)
      exact ⟨WfE_rank i1 (by rw [i2]; exact hr k (by omega)), (up_ne (by omega)).trans i2⟩
  exact (L m hm).1
theorem drawM_e {I : II} {e a n x : Nat} (h1 : x ≠ e + 2) : drawM I e a n x = I x := by
  have L : ∀ k, foldUp (fun k J => up J (e + 2) k (J a k)) I k x = I x := by
    intro k
    induction k with
    | zero => rfl
    | succ k ih => exact (up_ne h1).trans ih
  exact L n
theorem WfE_drawM {I : II} {e a n : Nat} (h : WfE I e) (ha : e + 31 ≤ a) (hn : n ≤ 8) (hr : ∀ k, k < 8 → 0 ≤ I a k ∧ I a k < 8) : WfE (drawM I e a n) e := by
  have L : ∀ k, k ≤ 8 → WfE (foldUp (fun k J => up J (e + 2) k (J a k)) I k) e ∧ foldUp (fun k J => up J (e + 2) k (J a k)) I k a = I a := by
    intro k
    induction k with
    | zero => exact fun _ => ⟨h, rfl⟩
    | succ k ih =>
      intro hk
      obtain ⟨i1, i2⟩ := ih (by omega)
      exact ⟨WfE_lot i1 (by rw [i2]; exact hr k (by omega)), (up_ne (by omega)).trans i2⟩
  exact (L n hn).1
theorem addM_e {I : II} {e a m x : Nat} {z : Int} (h1 : x ≠ e) (h3 : x ≠ e + 3) (h4 : x ≠ e + 4) (h6 : x ≠ e + 6 + (I e 4).toNat) : addM I e a m z x = I x := by
  unfold addM
  rw [rankM_e h4 h6, up_ne h3, up_ne h1]
theorem WfE_addM {I : II} {e a m : Nat} {z : Int} (h : WfE I e) (h25 : I e 4 < 25) (ha : e + 31 ≤ a) (hm : m ≤ 8) (hz : 0 ≤ z ∧ z ≤ 99) (hr : ∀ k, k < 8 → 0 ≤ I a k ∧ I a k < 8) : WfE (addM I e a m z) e := by
  have h4 := h.2.2.1
  exact WfE_rankM (WfE_size (WfE_piles h (by omega)) hz) (by omega) ha hm (fun k hk => by rw [up_ne (by omega), up_ne (by omega)]; exact hr k hk)
theorem TI_of {I J : II} {t : Nat} (h : TI I t) (h0 : J t = I t) (h1 : J (t + 1) = I (t + 1)) (h2 : J (t + 2) = I (t + 2)) : TI J t := by
  unfold TI at *
  rw [h0, h1, h2]
  exact h
/-- what reading a text needs of an election -/
def WfT (I : II) (e : Nat) : Prop := WfE I e ∧ I e 4 ≤ 24
theorem WfT_of {I J : II} {e : Nat} (h : WfT I e) (he : ∀ x, e ≤ x → x < e + 31 → J x = I x) : WfT J e := ⟨WfE_of h.1 he, by rw [he e (by omega) (by omega)]; exact h.2⟩
/-! the commands -/
def ad3 (t e : Nat) (z : Int) (R : Int × II) : Int × II := if R.1 = 0 then (0, R.2) else (1, addM R.2 e (t + 2) (R.2 t 2).toNat z)
def ad2 (t e : Nat) (z : Int) (P : Int × II) : Int × II := if P.1 = 0 then (0, P.2) else ad3 t e z (rkR P.2 t (P.2 e 0) 1)
def ad1 (t e : Nat) (N : Int × II) : Int × II := if N.1 = -1 then (0, N.2) else ad2 t e N.1 (paR N.2 t 58)
def adR (I : II) (t e : Nat) : Int × II := if 24 ≤ I e 4 then (0, fl I t) else ad1 t e (nbR I t)
def sz4 (e : Nat) (z y : Int) (P : Int × II) : Int × II := if P.1 = 0 then (0, P.2) else (1, up P.2 (e + 3) z.toNat y)
def sz3 (t e : Nat) (z : Int) (M : Int × II) : Int × II := if M.1 = -1 then (0, M.2) else sz4 e z M.1 (paR M.2 t 59)
def sz2 (t e : Nat) (z : Int) (P : Int × II) : Int × II := if P.1 = 0 then (0, P.2) else sz3 t e z (nbR P.2 t)
def sz1 (t e : Nat) (N : Int × II) : Int × II := if N.1 = -1 then (0, N.2) else sz2 t e N.1 (paR N.2 t 61)
def szR (I : II) (t e : Nat) : Int × II := sz1 t e (pnR (inc I t) t e)
def rq3 (t e : Nat) (z : Int) (R : Int × II) : Int × II := if R.1 = 0 then (0, R.2) else (1, rankM R.2 e z.toNat (t + 2) (R.2 t 2).toNat)
def rq2 (t e : Nat) (z : Int) (P : Int × II) : Int × II := if P.1 = 0 then (0, P.2) else rq3 t e z (rkR P.2 t (P.2 e 0) 1)
def rq1 (t e : Nat) (N : Int × II) : Int × II := if N.1 = -1 then (0, N.2) else rq2 t e N.1 (paR N.2 t 58)
def rqR (I : II) (t e : Nat) : Int × II := rq1 t e (pnR (inc I t) t e)
def lt1 (t e : Nat) (R : Int × II) : Int × II := if R.1 = 0 then (0, R.2) else (1, drawM R.2 e (t + 2) (R.2 e 0).toNat)
def ltR (I : II) (t e : Nat) : Int × II := lt1 t e (rkR (inc I t) t (I e 0) (I e 0))
def cmR (I : II) (t e : Nat) : Int × II := if ch I t = 35 then szR I t e else if ch I t = 126 then rqR I t e else if ch I t = 33 then ltR I t e else adR I t e
/-- commands from the k-th on -/
def riL (t e : Nat) : Nat → Nat → II → Int × II
  | 0, _, J => (-1, J)
  | f + 1, k, J => if 0 < k ∧ J t 4 ≤ J t 3 then ((k : Int), J) else if (cmR J t e).1 = 0 then (-1, (cmR J t e).2) else riL t e f (k + 1) (cmR J t e).2
def riR (I : II) (t e : Nat) : Int × II := riL t e 61 0 (up (up I t 3 0) t 5 (-1))

set_option maxRecDepth 100000 in
set_option maxHeartbeats 4000000 in
theorem c_readAddition {l : Launch} {g : GV} {S : SS} {I : II} {X : XX} {t e : Nat} (hfl : l.stackTraces = false) (hT : isTxt S t) (hE : isEl S e) (het : e + 31 ≤ t) (hW : WfT I e) (hI : TI I t) : CE l g mX7_readAddition 2 [.ref t, .ref e] S I X (some (.int (ii (adR I t e).1))) (adR I t e).2 := by
  obtain ⟨t0, t1, t1a, t2, t2a⟩ := id hT
  obtain ⟨y0, y1, y1a, y2, y2a, y3, y3a, y4, y4a, y5, y5a, yr⟩ := id hE
  obtain ⟨w0, w1, w2, w3, w4, w5, w6, w7, w8, w9, w10, w11, w12, w13, w14⟩ := id hW.1
  have w24 := hW.2
  refine v_startE hfl rfl (by decide) (Nat.le_of_ble_eq_true rfl) (ls := [some (.ref t), some (.ref e), none]) rfl ?_
  refine v_aload_n dX7_readAddition_0 rfl ?_
  refine v_geti dX7_readAddition_1 fr_X7_48 (by assumption) (by decide) rfl ?_
  refine v_bipush dX7_readAddition_4 (by decide) ?_
  refine v_ic_lt (tgt := 18) dX7_readAddition_6 (by decide) (fun h6 => ?_) (fun h6 => ?_)
  · refine v_aload_n dX7_readAddition_18 rfl ?_
    refine v_cV0 dX7_readAddition_19 lk_X7_57 (by assumption) (by decide) rfl (c_readNumber hfl hT hI) (by decide) (Nat.le_of_ble_eq_true rfl) ?_ rfl
    have hN := nb_rng I t
    have hNT := nb_TI hI
    have hNe : ∀ x, x ≠ t → (nbR I t).2 x = I x := fun x hx => nb_e hx
    generalize hNN : nbR I t = N at hN hNT hNe ⊢
    refine v_istn2 dX7_readAddition_22 rfl ?_
    refine v_iload_n dX7_readAddition_23 rfl ?_
    refine v_iconst dX7_readAddition_24 ?_
    refine v_ic_eq (tgt := 49) dX7_readAddition_25 (by decide) (fun h25 => ?_) (fun h25 => ?_)
    · refine v_iconst dX7_readAddition_49 ?_
      first
        | exact v_zE dX7_readAddition_50 rfl (Or.inl rfl) (by unfold adR; rw [if_neg (by omega), hNN]; unfold ad1; rw [if_neg (by omega), hPP]; unfold ad2; rw [if_neg (by omega), hRR]; unfold ad3; rw [if_pos (by omega)]) (by unfold adR; rw [if_neg (by omega), hNN]; unfold ad1; rw [if_neg (by omega), hPP]; unfold ad2; rw [if_neg (by omega), hRR]; unfold ad3; rw [if_pos (by omega)])
        | exact v_zE dX7_readAddition_50 rfl (Or.inl rfl) (by unfold adR; rw [if_neg (by omega), hNN]; unfold ad1; rw [if_neg (by omega), hPP]; unfold ad2; rw [if_pos (by omega)]) (by unfold adR; rw [if_neg (by omega), hNN]; unfold ad1; rw [if_neg (by omega), hPP]; unfold ad2; rw [if_pos (by omega)])
        | exact v_zE dX7_readAddition_50 rfl (Or.inl rfl) (by unfold adR; rw [if_neg (by omega), hNN]; unfold ad1; rw [if_pos (by omega)]) (by unfold adR; rw [if_neg (by omega), hNN]; unfold ad1; rw [if_pos (by omega)])
    · refine v_aload_n dX7_readAddition_28 rfl ?_
      refine v_bipush dX7_readAddition_29 (by decide) ?_
      refine v_cV1 dX7_readAddition_31 lk_X7_60 (by assumption) (by decide) rfl (c_pass hfl hT hNT (by omega)) (by decide) (Nat.le_of_ble_eq_true rfl) ?_ rfl
      have hP := pa_01 N.2 t 58
      have hPT := pa_TI (s := 58) hNT (by omega)
      have hPe : ∀ x, x ≠ t → (paR N.2 t 58).2 x = I x := fun x hx => (pa_e hx).trans (hNe x hx)
      generalize hPP : paR N.2 t 58 = P at hP hPT hPe ⊢
      refine v_if_eq (tgt := 49) dX7_readAddition_34 (by decide) (fun h34 => ?_) (fun h34 => ?_)
      · refine v_iconst dX7_readAddition_49 ?_
        first
          | exact v_zE dX7_readAddition_50 rfl (Or.inl rfl) (by unfold adR; rw [if_neg (by omega), hNN]; unfold ad1; rw [if_neg (by omega), hPP]; unfold ad2; rw [if_neg (by omega), hRR]; unfold ad3; rw [if_pos (by omega)]) (by unfold adR; rw [if_neg (by omega), hNN]; unfold ad1; rw [if_neg (by omega), hPP]; unfold ad2; rw [if_neg (by omega), hRR]; unfold ad3; rw [if_pos (by omega)])
          | exact v_zE dX7_readAddition_50 rfl (Or.inl rfl) (by unfold adR; rw [if_neg (by omega), hNN]; unfold ad1; rw [if_neg (by omega), hPP]; unfold ad2; rw [if_pos (by omega)]) (by unfold adR; rw [if_neg (by omega), hNN]; unfold ad1; rw [if_neg (by omega), hPP]; unfold ad2; rw [if_pos (by omega)])
          | exact v_zE dX7_readAddition_50 rfl (Or.inl rfl) (by unfold adR; rw [if_neg (by omega), hNN]; unfold ad1; rw [if_pos (by omega)]) (by unfold adR; rw [if_neg (by omega), hNN]; unfold ad1; rw [if_pos (by omega)])
      · refine v_aload_n dX7_readAddition_37 rfl ?_
        refine v_aload_n dX7_readAddition_38 rfl ?_
        have hP0 : P.2 e = I e := hPe e (by omega)
        have hP00 : P.2 e 0 = I e 0 := by rw [hP0]
        refine v_geti dX7_readAddition_39 fr_X7_63 (by assumption) (by decide) rfl ?_
        refine v_iconst dX7_readAddition_42 ?_
        refine v_cV2 dX7_readAddition_43 lk_X7_66 (by assumption) (by decide) rfl (c_readRanking hfl hT hPT (by omega) (by omega)) (by decide) (Nat.le_of_ble_eq_true rfl) ?_ rfl
        have hR : (rkR P.2 t (P.2 e 0) 1).1 = 0 ∨ (rkR P.2 t (P.2 e 0) 1).1 = 1 := rk_01 9 0 0 _
        have hRT : TI (rkR P.2 t (P.2 e 0) 1).2 t := rk_TI (by omega) 9 0 0 _ (by omega) hPT
        have hRe : ∀ x, x ≠ t → x ≠ t + 2 → (rkR P.2 t (P.2 e 0) 1).2 x = I x := fun x hx hx2 => (rk_e hx hx2 9 0 0 _).trans (hPe x hx)
        generalize hRR : rkR P.2 t (P.2 e 0) 1 = R at hR hRT hRe ⊢
        refine v_if_ne (tgt := 51) dX7_readAddition_46 (by decide) (fun h46 => ?_) (fun h46 => ?_)
        · obtain ⟨m, hm⟩ := Int.eq_ofNat_of_zero_le hRT.2.2.2.1
          have hm8 := hRT.2.2.2.2
          have hR4 : R.2 e = I e := hRe e (by omega) (by omega)
          refine v_aload_n dX7_readAddition_51 rfl ?_
          refine v_iload_n dX7_readAddition_52 rfl ?_
          refine v_aload_n dX7_readAddition_53 rfl ?_
          refine v_getr dX7_readAddition_54 fr_X7_15 (by assumption) (by decide) rfl (by assumption) ?_
          refine v_aload_n dX7_readAddition_57 rfl ?_
          refine v_geti dX7_readAddition_58 fr_X7_70 (by assumption) (by decide) rfl ?_
          rw [hm]
          refine v_cV3n dX7_readAddition_61 lk_X7_73 (by assumption) (by decide) rfl (c_addPile hfl hE (by rw [hR4]; exact w2) (by rw [hR4]; omega) t2a (by omega)) (by decide) (Nat.le_of_ble_eq_true rfl) ?_ rfl
          refine v_iconst dX7_readAddition_64 ?_
          exact v_zE dX7_readAddition_65 rfl (by first | exact Or.inl rfl | exact Or.inr rfl | omega) (by unfold adR; rw [if_neg (by omega), hNN]; unfold ad1; rw [if_neg (by omega), hPP]; unfold ad2; rw [if_neg (by omega), hRR]; unfold ad3; rw [if_neg (by omega)]) (by unfold adR; rw [if_neg (by omega), hNN]; unfold ad1; rw [if_neg (by omega), hPP]; unfold ad2; rw [if_neg (by omega), hRR]; unfold ad3; rw [if_neg (by omega), hm]; rfl)
        · refine v_iconst dX7_readAddition_49 ?_
          first
            | exact v_zE dX7_readAddition_50 rfl (Or.inl rfl) (by unfold adR; rw [if_neg (by omega), hNN]; unfold ad1; rw [if_neg (by omega), hPP]; unfold ad2; rw [if_neg (by omega), hRR]; unfold ad3; rw [if_pos (by omega)]) (by unfold adR; rw [if_neg (by omega), hNN]; unfold ad1; rw [if_neg (by omega), hPP]; unfold ad2; rw [if_neg (by omega), hRR]; unfold ad3; rw [if_pos (by omega)])
            | exact v_zE dX7_readAddition_50 rfl (Or.inl rfl) (by unfold adR; rw [if_neg (by omega), hNN]; unfold ad1; rw [if_neg (by omega), hPP]; unfold ad2; rw [if_pos (by omega)]) (by unfold adR; rw [if_neg (by omega), hNN]; unfold ad1; rw [if_neg (by omega), hPP]; unfold ad2; rw [if_pos (by omega)])
            | exact v_zE dX7_readAddition_50 rfl (Or.inl rfl) (by unfold adR; rw [if_neg (by omega), hNN]; unfold ad1; rw [if_pos (by omega)]) (by unfold adR; rw [if_neg (by omega), hNN]; unfold ad1; rw [if_pos (by omega)])
  · refine v_aload_n dX7_readAddition_9 rfl ?_
    refine v_aload_n dX7_readAddition_10 rfl ?_
    refine v_geti dX7_readAddition_11 fr_X7_25 (by assumption) (by decide) rfl ?_
    refine v_cV1 dX7_readAddition_14 lk_X7_53 (by assumption) (by decide) rfl (c_failAt hfl hT) (by decide) (Nat.le_of_ble_eq_true rfl) ?_ rfl
    exact v_zE dX7_readAddition_17 rfl (by first | exact Or.inl rfl | exact Or.inr rfl | omega) (by unfold adR; rw [if_pos (by omega)]) (by unfold adR; rw [if_pos (by omega)]; rfl)

set_option maxRecDepth 100000 in
set_option maxHeartbeats 4000000 in
theorem c_readSize {l : Launch} {g : GV} {S : SS} {I : II} {X : XX} {t e : Nat} (hfl : l.stackTraces = false) (hT : isTxt S t) (hE : isEl S e) (het : e + 31 ≤ t) (hW : WfT I e) (hI : TI I t) (hlt : I t 3 < I t 4) : CE l g mX7_readSize 3 [.ref t, .ref e] S I X (some (.int (ii (szR I t e).1))) (szR I t e).2 := by
  obtain ⟨t0, t1, t1a, t2, t2a⟩ := id hT
  obtain ⟨y0, y1, y1a, y2, y2a, y3, y3a, y4, y4a, y5, y5a, yr⟩ := id hE
  obtain ⟨w0, w1, w2, w3, w4, w5, w6, w7, w8, w9, w10, w11, w12, w13, w14⟩ := id hW.1
  have w24 := hW.2
  refine v_startE hfl rfl (by decide) (Nat.le_of_ble_eq_true rfl) (ls := [some (.ref t), some (.ref e), none, none]) rfl ?_
  refine v_aload_n dX7_readSize_0 rfl ?_
  refine v_dup dX7_readSize_1 rfl ?_
  refine v_geti dX7_readSize_2 fr_X7_25 (by assumption) (by decide) rfl ?_
  refine v_iconst dX7_readSize_5 ?_
  refine v_iadd dX7_readSize_6 ?_
  refine v_puti dX7_readSize_7 fr_X7_25 (by assumption) (by decide) rfl ?_
  rw [show up I t 3 (I t 3 + 1) = inc I t from rfl]
  have hI1 := TI_inc hI hlt
  have hI1e : ∀ x, x ≠ t → inc I t x = I x := fun x hx => inc_e hx
  refine v_aload_n dX7_readSize_10 rfl ?_
  refine v_aload_n dX7_readSize_11 rfl ?_
  refine v_cV1 dX7_readSize_12 lk_X7_77 (by assumption) (by decide) rfl (c_readPileNumber hfl hT hE (by omega) (by rw [hI1e e (by omega)]; omega) hI1) (by decide) (Nat.le_of_ble_eq_true rfl) ?_ rfl
  have hN := pn_rng (inc I t) t e
  rw [hI1e e (by omega)] at hN
  have hNT := pn_TI (e := e) hI1
  have hNe : ∀ x, x ≠ t → (pnR (inc I t) t e).2 x = I x := fun x hx => (pn_e hx).trans (hI1e x hx)
  generalize hNN : pnR (inc I t) t e = N at hN hNT hNe ⊢
  refine v_istn2 dX7_readSize_15 rfl ?_
  refine v_iload_n dX7_readSize_16 rfl ?_
  refine v_iconst dX7_readSize_17 ?_
  refine v_ic_eq (tgt := 30) dX7_readSize_18 (by decide) (fun h18 => ?_) (fun h18 => ?_)
  · refine v_iconst dX7_readSize_30 ?_
    first
      | exact v_zE dX7_readSize_31 rfl (Or.inl rfl) (by unfold szR; rw [hNN]; unfold sz1; rw [if_neg (by omega), hPP]; unfold sz2; rw [if_pos (by omega)]) (by unfold szR; rw [hNN]; unfold sz1; rw [if_neg (by omega), hPP]; unfold sz2; rw [if_pos (by omega)])
      | exact v_zE dX7_readSize_31 rfl (Or.inl rfl) (by unfold szR; rw [hNN]; unfold sz1; rw [if_pos (by omega)]) (by unfold szR; rw [hNN]; unfold sz1; rw [if_pos (by omega)])
  · refine v_aload_n dX7_readSize_21 rfl ?_
    refine v_bipush dX7_readSize_22 (by decide) ?_
    refine v_cV1 dX7_readSize_24 lk_X7_60 (by assumption) (by decide) rfl (c_pass hfl hT hNT (by omega)) (by decide) (Nat.le_of_ble_eq_true rfl) ?_ rfl
    have hP := pa_01 N.2 t 61
    have hPT := pa_TI (s := 61) hNT (by omega)
    have hPe : ∀ x, x ≠ t → (paR N.2 t 61).2 x = I x := fun x hx => (pa_e hx).trans (hNe x hx)
    generalize hPP : paR N.2 t 61 = P at hP hPT hPe ⊢
    refine v_if_ne (tgt := 32) dX7_readSize_27 (by decide) (fun h27 => ?_) (fun h27 => ?_)
    · refine v_aload_n dX7_readSize_32 rfl ?_
      refine v_cV0 dX7_readSize_33 lk_X7_57 (by assumption) (by decide) rfl (c_readNumber hfl hT hPT) (by decide) (Nat.le_of_ble_eq_true rfl) ?_ rfl
      have hM := nb_rng P.2 t
      have hMT := nb_TI hPT
      have hMe : ∀ x, x ≠ t → (nbR P.2 t).2 x = I x := fun x hx => (nb_e hx).trans (hPe x hx)
      generalize hMM : nbR P.2 t = M at hM hMT hMe ⊢
      refine v_istn3 dX7_readSize_36 rfl ?_
      refine v_iload_n dX7_readSize_37 rfl ?_
      refine v_iconst dX7_readSize_38 ?_
      refine v_ic_eq (tgt := 51) dX7_readSize_39 (by decide) (fun h39 => ?_) (fun h39 => ?_)
      · refine v_iconst dX7_readSize_51 ?_
        first
          | exact v_zE dX7_readSize_52 rfl (Or.inl rfl) (by unfold szR; rw [hNN]; unfold sz1; rw [if_neg (by omega), hPP]; unfold sz2; rw [if_neg (by omega), hMM]; unfold sz3; rw [if_neg (by omega), hQQ]; unfold sz4; rw [if_pos (by omega)]) (by unfold szR; rw [hNN]; unfold sz1; rw [if_neg (by omega), hPP]; unfold sz2; rw [if_neg (by omega), hMM]; unfold sz3; rw [if_neg (by omega), hQQ]; unfold sz4; rw [if_pos (by omega)])
          | exact v_zE dX7_readSize_52 rfl (Or.inl rfl) (by unfold szR; rw [hNN]; unfold sz1; rw [if_neg (by omega), hPP]; unfold sz2; rw [if_neg (by omega), hMM]; unfold sz3; rw [if_pos (by omega)]) (by unfold szR; rw [hNN]; unfold sz1; rw [if_neg (by omega), hPP]; unfold sz2; rw [if_neg (by omega), hMM]; unfold sz3; rw [if_pos (by omega)])
      · refine v_aload_n dX7_readSize_42 rfl ?_
        refine v_bipush dX7_readSize_43 (by decide) ?_
        refine v_cV1 dX7_readSize_45 lk_X7_60 (by assumption) (by decide) rfl (c_pass hfl hT hMT (by omega)) (by decide) (Nat.le_of_ble_eq_true rfl) ?_ rfl
        have hQ := pa_01 M.2 t 59
        have hQT := pa_TI (s := 59) hMT (by omega)
        have hQe : ∀ x, x ≠ t → (paR M.2 t 59).2 x = I x := fun x hx => (pa_e hx).trans (hMe x hx)
        generalize hQQ : paR M.2 t 59 = Q at hQ hQT hQe ⊢
        refine v_if_ne (tgt := 53) dX7_readSize_48 (by decide) (fun h48 => ?_) (fun h48 => ?_)
        · obtain ⟨p, hp⟩ := Int.eq_ofNat_of_zero_le (show 0 ≤ N.1 by omega)
          have hQ4 : Q.2 e 4 = I e 4 := by rw [hQe e (by omega)]
          rw [hp]
          refine v_aload_n dX7_readSize_53 rfl ?_
          refine v_iload_n dX7_readSize_54 rfl ?_
          refine v_iload_n dX7_readSize_55 rfl ?_
          refine v_cV2n dX7_readSize_56 lk_X7_81 (by assumption) (by decide) rfl (c_resize hfl hE (by rw [hQ4]; omega) (by rw [hQ4]; omega)) (by decide) (Nat.le_of_ble_eq_true rfl) ?_ rfl
          refine v_iconst dX7_readSize_59 ?_
          exact v_zE dX7_readSize_60 rfl (by first | exact Or.inl rfl | exact Or.inr rfl | omega) (by unfold szR; rw [hNN]; unfold sz1; rw [if_neg (by omega), hPP]; unfold sz2; rw [if_neg (by omega), hMM]; unfold sz3; rw [if_neg (by omega), hQQ]; unfold sz4; rw [if_neg (by omega)]) (by unfold szR; rw [hNN]; unfold sz1; rw [if_neg (by omega), hPP]; unfold sz2; rw [if_neg (by omega), hMM]; unfold sz3; rw [if_neg (by omega), hQQ]; unfold sz4; rw [if_neg (by omega), hp]; rfl)
        · refine v_iconst dX7_readSize_51 ?_
          first
            | exact v_zE dX7_readSize_52 rfl (Or.inl rfl) (by unfold szR; rw [hNN]; unfold sz1; rw [if_neg (by omega), hPP]; unfold sz2; rw [if_neg (by omega), hMM]; unfold sz3; rw [if_neg (by omega), hQQ]; unfold sz4; rw [if_pos (by omega)]) (by unfold szR; rw [hNN]; unfold sz1; rw [if_neg (by omega), hPP]; unfold sz2; rw [if_neg (by omega), hMM]; unfold sz3; rw [if_neg (by omega), hQQ]; unfold sz4; rw [if_pos (by omega)])
            | exact v_zE dX7_readSize_52 rfl (Or.inl rfl) (by unfold szR; rw [hNN]; unfold sz1; rw [if_neg (by omega), hPP]; unfold sz2; rw [if_neg (by omega), hMM]; unfold sz3; rw [if_pos (by omega)]) (by unfold szR; rw [hNN]; unfold sz1; rw [if_neg (by omega), hPP]; unfold sz2; rw [if_neg (by omega), hMM]; unfold sz3; rw [if_pos (by omega)])
    · refine v_iconst dX7_readSize_30 ?_
      first
        | exact v_zE dX7_readSize_31 rfl (Or.inl rfl) (by unfold szR; rw [hNN]; unfold sz1; rw [if_neg (by omega), hPP]; unfold sz2; rw [if_pos (by omega)]) (by unfold szR; rw [hNN]; unfold sz1; rw [if_neg (by omega), hPP]; unfold sz2; rw [if_pos (by omega)])
        | exact v_zE dX7_readSize_31 rfl (Or.inl rfl) (by unfold szR; rw [hNN]; unfold sz1; rw [if_pos (by omega)]) (by unfold szR; rw [hNN]; unfold sz1; rw [if_pos (by omega)])

set_option maxRecDepth 100000 in
set_option maxHeartbeats 4000000 in
theorem c_readReplacement {l : Launch} {g : GV} {S : SS} {I : II} {X : XX} {t e : Nat} (hfl : l.stackTraces = false) (hT : isTxt S t) (hE : isEl S e) (het : e + 31 ≤ t) (hW : WfT I e) (hI : TI I t) (hlt : I t 3 < I t 4) : CE l g mX7_readReplacement 3 [.ref t, .ref e] S I X (some (.int (ii (rqR I t e).1))) (rqR I t e).2 := by
  obtain ⟨t0, t1, t1a, t2, t2a⟩ := id hT
  obtain ⟨y0, y1, y1a, y2, y2a, y3, y3a, y4, y4a, y5, y5a, yr⟩ := id hE
  obtain ⟨w0, w1, w2, w3, w4, w5, w6, w7, w8, w9, w10, w11, w12, w13, w14⟩ := id hW.1
  have w24 := hW.2
  refine v_startE hfl rfl (by decide) (Nat.le_of_ble_eq_true rfl) (ls := [some (.ref t), some (.ref e), none]) rfl ?_
  refine v_aload_n dX7_readReplacement_0 rfl ?_
  refine v_dup dX7_readReplacement_1 rfl ?_
  refine v_geti dX7_readReplacement_2 fr_X7_25 (by assumption) (by decide) rfl ?_
  refine v_iconst dX7_readReplacement_5 ?_
  refine v_iadd dX7_readReplacement_6 ?_
  refine v_puti dX7_readReplacement_7 fr_X7_25 (by assumption) (by decide) rfl ?_
  rw [show up I t 3 (I t 3 + 1) = inc I t from rfl]
  have hI1 := TI_inc hI hlt
  have hI1e : ∀ x, x ≠ t → inc I t x = I x := fun x hx => inc_e hx
  refine v_aload_n dX7_readReplacement_10 rfl ?_
  refine v_aload_n dX7_readReplacement_11 rfl ?_
  refine v_cV1 dX7_readReplacement_12 lk_X7_77 (by assumption) (by decide) rfl (c_readPileNumber hfl hT hE (by omega) (by rw [hI1e e (by omega)]; omega) hI1) (by decide) (Nat.le_of_ble_eq_true rfl) ?_ rfl
  have hN := pn_rng (inc I t) t e
  rw [hI1e e (by omega)] at hN
  have hNT := pn_TI (e := e) hI1
  have hNe : ∀ x, x ≠ t → (pnR (inc I t) t e).2 x = I x := fun x hx => (pn_e hx).trans (hI1e x hx)
  generalize hNN : pnR (inc I t) t e = N at hN hNT hNe ⊢
  refine v_istn2 dX7_readReplacement_15 rfl ?_
  refine v_iload_n dX7_readReplacement_16 rfl ?_
  refine v_iconst dX7_readReplacement_17 ?_
  refine v_ic_eq (tgt := 42) dX7_readReplacement_18 (by decide) (fun h18 => ?_) (fun h18 => ?_)
  · refine v_iconst dX7_readReplacement_42 ?_
    first
      | exact v_zE dX7_readReplacement_43 rfl (Or.inl rfl) (by unfold rqR; rw [hNN]; unfold rq1; rw [if_neg (by omega), hPP]; unfold rq2; rw [if_neg (by omega), hRR]; unfold rq3; rw [if_pos (by omega)]) (by unfold rqR; rw [hNN]; unfold rq1; rw [if_neg (by omega), hPP]; unfold rq2; rw [if_neg (by omega), hRR]; unfold rq3; rw [if_pos (by omega)])
      | exact v_zE dX7_readReplacement_43 rfl (Or.inl rfl) (by unfold rqR; rw [hNN]; unfold rq1; rw [if_neg (by omega), hPP]; unfold rq2; rw [if_pos (by omega)]) (by unfold rqR; rw [hNN]; unfold rq1; rw [if_neg (by omega), hPP]; unfold rq2; rw [if_pos (by omega)])
      | exact v_zE dX7_readReplacement_43 rfl (Or.inl rfl) (by unfold rqR; rw [hNN]; unfold rq1; rw [if_pos (by omega)]) (by unfold rqR; rw [hNN]; unfold rq1; rw [if_pos (by omega)])
  · refine v_aload_n dX7_readReplacement_21 rfl ?_
    refine v_bipush dX7_readReplacement_22 (by decide) ?_
    refine v_cV1 dX7_readReplacement_24 lk_X7_60 (by assumption) (by decide) rfl (c_pass hfl hT hNT (by omega)) (by decide) (Nat.le_of_ble_eq_true rfl) ?_ rfl
    have hP := pa_01 N.2 t 58
    have hPT := pa_TI (s := 58) hNT (by omega)
    have hPe : ∀ x, x ≠ t → (paR N.2 t 58).2 x = I x := fun x hx => (pa_e hx).trans (hNe x hx)
    generalize hPP : paR N.2 t 58 = P at hP hPT hPe ⊢
    refine v_if_eq (tgt := 42) dX7_readReplacement_27 (by decide) (fun h27 => ?_) (fun h27 => ?_)
    · refine v_iconst dX7_readReplacement_42 ?_
      first
        | exact v_zE dX7_readReplacement_43 rfl (Or.inl rfl) (by unfold rqR; rw [hNN]; unfold rq1; rw [if_neg (by omega), hPP]; unfold rq2; rw [if_neg (by omega), hRR]; unfold rq3; rw [if_pos (by omega)]) (by unfold rqR; rw [hNN]; unfold rq1; rw [if_neg (by omega), hPP]; unfold rq2; rw [if_neg (by omega), hRR]; unfold rq3; rw [if_pos (by omega)])
        | exact v_zE dX7_readReplacement_43 rfl (Or.inl rfl) (by unfold rqR; rw [hNN]; unfold rq1; rw [if_neg (by omega), hPP]; unfold rq2; rw [if_pos (by omega)]) (by unfold rqR; rw [hNN]; unfold rq1; rw [if_neg (by omega), hPP]; unfold rq2; rw [if_pos (by omega)])
        | exact v_zE dX7_readReplacement_43 rfl (Or.inl rfl) (by unfold rqR; rw [hNN]; unfold rq1; rw [if_pos (by omega)]) (by unfold rqR; rw [hNN]; unfold rq1; rw [if_pos (by omega)])
    · refine v_aload_n dX7_readReplacement_30 rfl ?_
      refine v_aload_n dX7_readReplacement_31 rfl ?_
      have hP0 : P.2 e = I e := hPe e (by omega)
      have hP00 : P.2 e 0 = I e 0 := by rw [hP0]
      refine v_geti dX7_readReplacement_32 fr_X7_63 (by assumption) (by decide) rfl ?_
      refine v_iconst dX7_readReplacement_35 ?_
      refine v_cV2 dX7_readReplacement_36 lk_X7_66 (by assumption) (by decide) rfl (c_readRanking hfl hT hPT (by omega) (by omega)) (by decide) (Nat.le_of_ble_eq_true rfl) ?_ rfl
      have hR : (rkR P.2 t (P.2 e 0) 1).1 = 0 ∨ (rkR P.2 t (P.2 e 0) 1).1 = 1 := rk_01 9 0 0 _
      have hRT : TI (rkR P.2 t (P.2 e 0) 1).2 t := rk_TI (by omega) 9 0 0 _ (by omega) hPT
      have hRe : ∀ x, x ≠ t → x ≠ t + 2 → (rkR P.2 t (P.2 e 0) 1).2 x = I x := fun x hx hx2 => (rk_e hx hx2 9 0 0 _).trans (hPe x hx)
      generalize hRR : rkR P.2 t (P.2 e 0) 1 = R at hR hRT hRe ⊢
      refine v_if_ne (tgt := 44) dX7_readReplacement_39 (by decide) (fun h39 => ?_) (fun h39 => ?_)
      · obtain ⟨m, hm⟩ := Int.eq_ofNat_of_zero_le hRT.2.2.2.1
        have hm8 := hRT.2.2.2.2
        have hR4 : R.2 e = I e := hRe e (by omega) (by omega)
        obtain ⟨p, hp⟩ := Int.eq_ofNat_of_zero_le (show 0 ≤ N.1 by omega)
        rw [hp]
        refine v_aload_n dX7_readReplacement_44 rfl ?_
        refine v_iload_n dX7_readReplacement_45 rfl ?_
        refine v_aload_n dX7_readReplacement_46 rfl ?_
        refine v_getr dX7_readReplacement_47 fr_X7_15 (by assumption) (by decide) rfl (by assumption) ?_
        refine v_aload_n dX7_readReplacement_50 rfl ?_
        refine v_geti dX7_readReplacement_51 fr_X7_70 (by assumption) (by decide) rfl ?_
        rw [hm]
        refine v_cV3n dX7_readReplacement_54 lk_X7_85 (by assumption) (by decide) rfl (c_rank hfl hE (by rw [hR4]; omega) (by rw [hR4]; omega) t2a (by omega)) (by decide) (Nat.le_of_ble_eq_true rfl) ?_ rfl
        refine v_iconst dX7_readReplacement_57 ?_
        exact v_zE dX7_readReplacement_58 rfl (by first | exact Or.inl rfl | exact Or.inr rfl | omega) (by unfold rqR; rw [hNN]; unfold rq1; rw [if_neg (by omega), hPP]; unfold rq2; rw [if_neg (by omega), hRR]; unfold rq3; rw [if_neg (by omega)]) (by unfold rqR; rw [hNN]; unfold rq1; rw [if_neg (by omega), hPP]; unfold rq2; rw [if_neg (by omega), hRR]; unfold rq3; rw [if_neg (by omega), hp, hm]; rfl)
      · refine v_iconst dX7_readReplacement_42 ?_
        first
          | exact v_zE dX7_readReplacement_43 rfl (Or.inl rfl) (by unfold rqR; rw [hNN]; unfold rq1; rw [if_neg (by omega), hPP]; unfold rq2; rw [if_neg (by omega), hRR]; unfold rq3; rw [if_pos (by omega)]) (by unfold rqR; rw [hNN]; unfold rq1; rw [if_neg (by omega), hPP]; unfold rq2; rw [if_neg (by omega), hRR]; unfold rq3; rw [if_pos (by omega)])
          | exact v_zE dX7_readReplacement_43 rfl (Or.inl rfl) (by unfold rqR; rw [hNN]; unfold rq1; rw [if_neg (by omega), hPP]; unfold rq2; rw [if_pos (by omega)]) (by unfold rqR; rw [hNN]; unfold rq1; rw [if_neg (by omega), hPP]; unfold rq2; rw [if_pos (by omega)])
          | exact v_zE dX7_readReplacement_43 rfl (Or.inl rfl) (by unfold rqR; rw [hNN]; unfold rq1; rw [if_pos (by omega)]) (by unfold rqR; rw [hNN]; unfold rq1; rw [if_pos (by omega)])

set_option maxRecDepth 100000 in
set_option maxHeartbeats 4000000 in
theorem c_readLot {l : Launch} {g : GV} {S : SS} {I : II} {X : XX} {t e : Nat} (hfl : l.stackTraces = false) (hT : isTxt S t) (hE : isEl S e) (het : e + 31 ≤ t) (hW : WfT I e) (hI : TI I t) (hlt : I t 3 < I t 4) : CE l g mX7_readLot 2 [.ref t, .ref e] S I X (some (.int (ii (ltR I t e).1))) (ltR I t e).2 := by
  obtain ⟨t0, t1, t1a, t2, t2a⟩ := id hT
  obtain ⟨y0, y1, y1a, y2, y2a, y3, y3a, y4, y4a, y5, y5a, yr⟩ := id hE
  obtain ⟨w0, w1, w2, w3, w4, w5, w6, w7, w8, w9, w10, w11, w12, w13, w14⟩ := id hW.1
  have w24 := hW.2
  refine v_startE hfl rfl (by decide) (Nat.le_of_ble_eq_true rfl) (ls := [some (.ref t), some (.ref e)]) rfl ?_
  refine v_aload_n dX7_readLot_0 rfl ?_
  refine v_dup dX7_readLot_1 rfl ?_
  refine v_geti dX7_readLot_2 fr_X7_25 (by assumption) (by decide) rfl ?_
  refine v_iconst dX7_readLot_5 ?_
  refine v_iadd dX7_readLot_6 ?_
  refine v_puti dX7_readLot_7 fr_X7_25 (by assumption) (by decide) rfl ?_
  rw [show up I t 3 (I t 3 + 1) = inc I t from rfl]
  have hI1 := TI_inc hI hlt
  have hI1e : ∀ x, x ≠ t → inc I t x = I x := fun x hx => inc_e hx
  refine v_aload_n dX7_readLot_10 rfl ?_
  refine v_aload_n dX7_readLot_11 rfl ?_
  refine v_geti dX7_readLot_12 fr_X7_63 (by assumption) (by decide) rfl ?_
  rw [hI1e e (by omega)]
  refine v_aload_n dX7_readLot_15 rfl ?_
  refine v_geti dX7_readLot_16 fr_X7_63 (by assumption) (by decide) rfl ?_
  rw [hI1e e (by omega)]
  refine v_cV2 dX7_readLot_19 lk_X7_66 (by assumption) (by decide) rfl (c_readRanking hfl hT hI1 (by omega) (by omega)) (by decide) (Nat.le_of_ble_eq_true rfl) ?_ rfl
  have hR : (rkR (inc I t) t (I e 0) (I e 0)).1 = 0 ∨ (rkR (inc I t) t (I e 0) (I e 0)).1 = 1 := rk_01 9 0 0 _
  have hRT : TI (rkR (inc I t) t (I e 0) (I e 0)).2 t := rk_TI (by omega) 9 0 0 _ (by omega) hI1
  have hRe : ∀ x, x ≠ t → x ≠ t + 2 → (rkR (inc I t) t (I e 0) (I e 0)).2 x = I x := fun x hx hx2 => (rk_e hx hx2 9 0 0 _).trans (hI1e x hx)
  generalize hRR : rkR (inc I t) t (I e 0) (I e 0) = R at hR hRT hRe ⊢
  refine v_if_ne (tgt := 27) dX7_readLot_22 (by decide) (fun h22 => ?_) (fun h22 => ?_)
  · have hR4 : R.2 e = I e := hRe e (by omega) (by omega)
    obtain ⟨n, hn⟩ := Int.eq_ofNat_of_zero_le (show 0 ≤ I e 0 by omega)
    refine v_aload_n dX7_readLot_27 rfl ?_
    refine v_aload_n dX7_readLot_28 rfl ?_
    refine v_getr dX7_readLot_29 fr_X7_15 (by assumption) (by decide) rfl (by assumption) ?_
    refine v_cV1n dX7_readLot_32 lk_X7_88 (by assumption) (by decide) rfl (c_drawLot (n := n) hfl hE (by rw [hR4]; exact hn) (by omega) t2a) (by decide) (Nat.le_of_ble_eq_true rfl) ?_ rfl
    refine v_iconst dX7_readLot_35 ?_
    exact v_zE dX7_readLot_36 rfl (by first | exact Or.inl rfl | exact Or.inr rfl | omega) (by unfold ltR; rw [hRR]; unfold lt1; rw [if_neg (by omega)]) (by unfold ltR; rw [hRR]; unfold lt1; rw [if_neg (by omega), hR4, hn]; rfl)
  · refine v_iconst dX7_readLot_25 ?_
    exact v_zE dX7_readLot_26 rfl (Or.inl rfl) (by unfold ltR; rw [hRR]; unfold lt1; rw [if_pos (by omega)]) (by unfold ltR; rw [hRR]; unfold lt1; rw [if_pos (by omega)])

/-! what the commands leave as it was -/
def CO (t e : Nat) (R : Int × II) : Prop := (R.1 = 0 ∨ R.1 = 1) ∧ TI R.2 t ∧ WfT R.2 e
theorem CO_0 {t e : Nat} {J : II} (hJ : TI J t) (hW : WfT J e) : CO t e (0, J) := ⟨Or.inl rfl, hJ, hW⟩
theorem ad_ok {I : II} {t e : Nat} (het : e + 31 ≤ t) (hW : WfT I e) (hI : TI I t) : CO t e (adR I t e) := by
  obtain ⟨w0, w1, w2, w3, w4, w5, w6, w7, w8, w9, w10, w11, w12, w13, w14⟩ := id hW.1
  have w24 := hW.2
  unfold adR
  split
  · exact CO_0 (TI_fl hI) (WfT_of hW fun x h1 h2 => fl_e (by omega))
  have hN := nb_rng I t
  have hNT := nb_TI hI
  have hNe : ∀ x, x ≠ t → (nbR I t).2 x = I x := fun x hx => nb_e hx
  generalize nbR I t = N at hN hNT hNe ⊢
  have hNW : WfT N.2 e := WfT_of hW fun x h1 h2 => hNe x (by omega)
  unfold ad1
  split
  · exact CO_0 hNT hNW
  have hPT := pa_TI (s := 58) hNT (by omega)
  have hPe : ∀ x, x ≠ t → (paR N.2 t 58).2 x = I x := fun x hx => (pa_e hx).trans (hNe x hx)
  generalize paR N.2 t 58 = P at hPT hPe ⊢
  have hPW : WfT P.2 e := WfT_of hW fun x h1 h2 => hPe x (by omega)
  unfold ad2
  split
  · exact CO_0 hPT hPW
  have hRT : TI (rkR P.2 t (P.2 e 0) 1).2 t := rk_TI hPW.1.2.1 9 0 0 _ (by omega) hPT
  have hRe : ∀ x, x ≠ t → x ≠ t + 2 → (rkR P.2 t (P.2 e 0) 1).2 x = I x := fun x hx hx2 => (rk_e hx hx2 9 0 0 _).trans (hPe x hx)
  generalize rkR P.2 t (P.2 e 0) 1 = R at hRT hRe ⊢
  have hRW : WfT R.2 e := WfT_of hW fun x h1 h2 => hRe x (by omega) (by omega)
  unfold ad3
  split
  · exact CO_0 hRT hRW
  have h4 : R.2 e 4 = I e 4 := by rw [hRe e (by omega) (by omega)]
  obtain ⟨-, -, r5, r6, r7⟩ := id hRT
  refine ⟨Or.inr rfl, TI_of hRT (addM_e (by omega) (by omega) (by omega) (by omega)) (addM_e (by omega) (by omega) (by omega) (by omega)) (addM_e (by omega) (by omega) (by omega) (by omega)), WfE_addM hRW.1 (by omega) (by omega) (by omega) (by omega) r5, ?_⟩
  show addM R.2 e (t + 2) (R.2 t 2).toNat N.1 e 4 ≤ 24
  unfold addM
  rw [rankM_e (by omega) (by omega), up_ne (by omega), up_eq]
  omega
theorem sz_ok {I : II} {t e : Nat} (het : e + 31 ≤ t) (hW : WfT I e) (hI : TI I t) (hlt : I t 3 < I t 4) : CO t e (szR I t e) := by
  have hI1 := TI_inc hI hlt
  have hI1e : ∀ x, x ≠ t → inc I t x = I x := fun x hx => inc_e hx
  unfold szR
  have hNT := pn_TI (e := e) hI1
  have hNe : ∀ x, x ≠ t → (pnR (inc I t) t e).2 x = I x := fun x hx => (pn_e hx).trans (hI1e x hx)
  generalize pnR (inc I t) t e = N at hNT hNe ⊢
  have hNW : WfT N.2 e := WfT_of hW fun x h1 h2 => hNe x (by omega)
  unfold sz1
  split
  · exact CO_0 hNT hNW
  have hPT := pa_TI (s := 61) hNT (by omega)
  have hPe : ∀ x, x ≠ t → (paR N.2 t 61).2 x = I x := fun x hx => (pa_e hx).trans (hNe x hx)
  generalize paR N.2 t 61 = P at hPT hPe ⊢
  have hPW : WfT P.2 e := WfT_of hW fun x h1 h2 => hPe x (by omega)
  unfold sz2
  split
  · exact CO_0 hPT hPW
  have hM := nb_rng P.2 t
  have hMT := nb_TI hPT
  have hMe : ∀ x, x ≠ t → (nbR P.2 t).2 x = I x := fun x hx => (nb_e hx).trans (hPe x hx)
  generalize nbR P.2 t = M at hM hMT hMe ⊢
  have hMW : WfT M.2 e := WfT_of hW fun x h1 h2 => hMe x (by omega)
  unfold sz3
  split
  · exact CO_0 hMT hMW
  have hQT := pa_TI (s := 59) hMT (by omega)
  have hQe : ∀ x, x ≠ t → (paR M.2 t 59).2 x = I x := fun x hx => (pa_e hx).trans (hMe x hx)
  generalize paR M.2 t 59 = Q at hQT hQe ⊢
  have hQW : WfT Q.2 e := WfT_of hW fun x h1 h2 => hQe x (by omega)
  unfold sz4
  split
  · exact CO_0 hQT hQW
  refine ⟨Or.inr rfl, TI_of hQT (up_ne (by omega)) (up_ne (by omega)) (up_ne (by omega)), WfE_size hQW.1 (by omega), ?_⟩
  show up Q.2 (e + 3) _ _ e 4 ≤ 24
  rw [up_ne (by omega)]
  exact hQW.2
theorem rq_ok {I : II} {t e : Nat} (het : e + 31 ≤ t) (hW : WfT I e) (hI : TI I t) (hlt : I t 3 < I t 4) : CO t e (rqR I t e) := by
  have hI1 := TI_inc hI hlt
  have hI1e : ∀ x, x ≠ t → inc I t x = I x := fun x hx => inc_e hx
  have w24 := hW.2
  unfold rqR
  have hN := pn_rng (inc I t) t e
  rw [hI1e e (by omega)] at hN
  have hNT := pn_TI (e := e) hI1
  have hNe : ∀ x, x ≠ t → (pnR (inc I t) t e).2 x = I x := fun x hx => (pn_e hx).trans (hI1e x hx)
  generalize pnR (inc I t) t e = N at hN hNT hNe ⊢
  have hNW : WfT N.2 e := WfT_of hW fun x h1 h2 => hNe x (by omega)
  unfold rq1
  split
  · exact CO_0 hNT hNW
  have hPT := pa_TI (s := 58) hNT (by omega)
  have hPe : ∀ x, x ≠ t → (paR N.2 t 58).2 x = I x := fun x hx => (pa_e hx).trans (hNe x hx)
  generalize paR N.2 t 58 = P at hPT hPe ⊢
  have hPW : WfT P.2 e := WfT_of hW fun x h1 h2 => hPe x (by omega)
  unfold rq2
  split
  · exact CO_0 hPT hPW
  have hRT : TI (rkR P.2 t (P.2 e 0) 1).2 t := rk_TI hPW.1.2.1 9 0 0 _ (by omega) hPT
  have hRe : ∀ x, x ≠ t → x ≠ t + 2 → (rkR P.2 t (P.2 e 0) 1).2 x = I x := fun x hx hx2 => (rk_e hx hx2 9 0 0 _).trans (hPe x hx)
  generalize rkR P.2 t (P.2 e 0) 1 = R at hRT hRe ⊢
  have hRW : WfT R.2 e := WfT_of hW fun x h1 h2 => hRe x (by omega) (by omega)
  unfold rq3
  split
  · exact CO_0 hRT hRW
  obtain ⟨-, -, r5, r6, r7⟩ := id hRT
  refine ⟨Or.inr rfl, TI_of hRT (rankM_e (by omega) (by omega)) (rankM_e (by omega) (by omega)) (rankM_e (by omega) (by omega)), WfE_rankM hRW.1 (by omega) (by omega) (by omega) r5, ?_⟩
  show rankM R.2 e _ _ _ e 4 ≤ 24
  rw [rankM_e (by omega) (by omega)]
  exact hRW.2
theorem lt_ok {I : II} {t e : Nat} (het : e + 31 ≤ t) (hW : WfT I e) (hI : TI I t) (hlt : I t 3 < I t 4) : CO t e (ltR I t e) := by
  have hI1 := TI_inc hI hlt
  have hI1e : ∀ x, x ≠ t → inc I t x = I x := fun x hx => inc_e hx
  have w1 := hW.1.2.1
  unfold ltR
  have hRT : TI (rkR (inc I t) t (I e 0) (I e 0)).2 t := rk_TI w1 9 0 0 _ (by omega) hI1
  have hRe : ∀ x, x ≠ t → x ≠ t + 2 → (rkR (inc I t) t (I e 0) (I e 0)).2 x = I x := fun x hx hx2 => (rk_e hx hx2 9 0 0 _).trans (hI1e x hx)
  generalize rkR (inc I t) t (I e 0) (I e 0) = R at hRT hRe ⊢
  have hRW : WfT R.2 e := WfT_of hW fun x h1 h2 => hRe x (by omega) (by omega)
  unfold lt1
  split
  · exact CO_0 hRT hRW
  have r0 := hRW.1.2.1
  obtain ⟨-, -, r5, r6, r7⟩ := id hRT
  refine ⟨Or.inr rfl, TI_of hRT (drawM_e (by omega)) (drawM_e (by omega)) (drawM_e (by omega)), WfE_drawM hRW.1 (by omega) (by omega) r5, ?_⟩
  show drawM R.2 e _ _ e 4 ≤ 24
  rw [drawM_e (by omega)]
  exact hRW.2
theorem cm_ok {I : II} {t e : Nat} (het : e + 31 ≤ t) (hW : WfT I e) (hI : TI I t) : CO t e (cmR I t e) := by
  unfold cmR
  split
  · exact sz_ok het hW hI (ch_lt (by omega))
  · split
    · exact rq_ok het hW hI (ch_lt (by omega))
    · split
      · exact lt_ok het hW hI (ch_lt (by omega))
      · exact ad_ok het hW hI

set_option maxRecDepth 100000 in
set_option maxHeartbeats 4000000 in
theorem c_readCommand {l : Launch} {g : GV} {S : SS} {I : II} {X : XX} {t e : Nat} (hfl : l.stackTraces = false) (hT : isTxt S t) (hE : isEl S e) (het : e + 31 ≤ t) (hW : WfT I e) (hI : TI I t) : CE l g mX7_readCommand 4 [.ref t, .ref e] S I X (some (.int (ii (cmR I t e).1))) (cmR I t e).2 := by
  obtain ⟨t0, t1, t1a, t2, t2a⟩ := id hT
  obtain ⟨y0, y1, y1a, y2, y2a, y3, y3a, y4, y4a, y5, y5a, yr⟩ := id hE
  refine v_startE hfl rfl (by decide) (Nat.le_of_ble_eq_true rfl) (ls := [some (.ref t), some (.ref e)]) rfl ?_
  refine v_aload_n dX7_readCommand_0 rfl ?_
  refine v_cV0 dX7_readCommand_1 lk_X7_32 (by assumption) (by decide) rfl (c_next hfl hT hI) (by decide) (Nat.le_of_ble_eq_true rfl) ?_ rfl
  have hc := ch_rng hI
  by_cases hz1 : ch I t = 35
  · have hz := hz1
    refine v_lookup (off := 36) (tgt := 40) dX7_readCommand_4 (by decide) (by rw [hz]; rfl) rfl ?_
    refine v_aload_n dX7_readCommand_40 rfl ?_
    refine v_aload_n dX7_readCommand_41 rfl ?_
    refine v_cV1 dX7_readCommand_42 lk_X7_36 (by assumption) (by decide) rfl (c_readSize hfl hT hE het hW hI (ch_lt (by omega))) (by decide) (Nat.le_of_ble_eq_true rfl) ?_ rfl
    have h01 := (sz_ok het hW hI (ch_lt (by omega))).1
    exact v_zE dX7_readCommand_45 rfl (by first | exact Or.inl rfl | exact Or.inr rfl | omega) (by unfold cmR; rw [if_pos hz]) (by unfold cmR; rw [if_pos hz])
  · by_cases hz2 : ch I t = 126
    · have hz := hz2
      refine v_lookup (off := 42) (tgt := 46) dX7_readCommand_4 (by decide) (by rw [hz]; rfl) rfl ?_
      refine v_aload_n dX7_readCommand_46 rfl ?_
      refine v_aload_n dX7_readCommand_47 rfl ?_
      refine v_cV1 dX7_readCommand_48 lk_X7_39 (by assumption) (by decide) rfl (c_readReplacement hfl hT hE het hW hI (ch_lt (by omega))) (by decide) (Nat.le_of_ble_eq_true rfl) ?_ rfl
      have h01 := (rq_ok het hW hI (ch_lt (by omega))).1
      exact v_zE dX7_readCommand_51 rfl (by first | exact Or.inl rfl | exact Or.inr rfl | omega) (by unfold cmR; rw [if_neg (by omega), if_pos hz]) (by unfold cmR; rw [if_neg (by omega), if_pos hz])
    · by_cases hz3 : ch I t = 33
      · have hz := hz3
        refine v_lookup (off := 48) (tgt := 52) dX7_readCommand_4 (by decide) (by rw [hz]; rfl) rfl ?_
        refine v_aload_n dX7_readCommand_52 rfl ?_
        refine v_aload_n dX7_readCommand_53 rfl ?_
        refine v_cV1 dX7_readCommand_54 lk_X7_42 (by assumption) (by decide) rfl (c_readLot hfl hT hE het hW hI (ch_lt (by omega))) (by decide) (Nat.le_of_ble_eq_true rfl) ?_ rfl
        have h01 := (lt_ok het hW hI (ch_lt (by omega))).1
        exact v_zE dX7_readCommand_57 rfl (by first | exact Or.inl rfl | exact Or.inr rfl | omega) (by unfold cmR; rw [if_neg (by omega), if_neg (by omega), if_pos hz]) (by unfold cmR; rw [if_neg (by omega), if_neg (by omega), if_pos hz])
      · refine v_lookup (off := 54) (tgt := 58) dX7_readCommand_4 (by decide) (by show (if _ then _ else if _ then _ else if _ then _ else _) = _; rw [if_neg (by omega), if_neg (by omega), if_neg (by omega)]; rfl) rfl ?_
        refine v_aload_n dX7_readCommand_58 rfl ?_
        refine v_aload_n dX7_readCommand_59 rfl ?_
        refine v_cV1 dX7_readCommand_60 lk_X7_45 (by assumption) (by decide) rfl (c_readAddition hfl hT hE het hW hI) (by decide) (Nat.le_of_ble_eq_true rfl) ?_ rfl
        have h01 := (ad_ok het hW hI).1
        exact v_zE dX7_readCommand_63 rfl (by first | exact Or.inl rfl | exact Or.inr rfl | omega) (by unfold cmR; rw [if_neg hz1, if_neg hz2, if_neg hz3]) (by unfold cmR; rw [if_neg hz1, if_neg hz2, if_neg hz3])

set_option maxRecDepth 100000 in
set_option maxHeartbeats 4000000 in
theorem c_readInto {l : Launch} {g : GV} {S : SS} {I : II} {X : XX} {t e : Nat} (hfl : l.stackTraces = false) (hT : isTxt S t) (hE : isEl S e) (het : e + 31 ≤ t) (hW0 : WfT I e) (hI0 : TI0 I t) : CE l g mX7_readInto 5 [.ref t, .ref e] S I X (some (.int (ii (riR I t e).1))) (riR I t e).2 := by
  obtain ⟨t0, t1, t1a, t2, t2a⟩ := id hT
  obtain ⟨y0, y1, y1a, y2, y2a, y3, y3a, y4, y4a, y5, y5a, yr⟩ := id hE
  have L : ∀ k : Nat, k ≤ 61 → ∀ J : II, WfT J e → TI J t → V l g mX7_readInto 5 (Zm g (QE (some (.int (ii (riL t e (61 - k) k J).1))) S (riL t e (61 - k) k J).2 X)) 0 0 12 [some (.ref t), some (.ref e), some (.int (ii (k : Int)))] [] S J X := by
    refine loop_up fun k hk ih => ?_
    intro J hW hI
    have hC := cm_ok het hW hI
    obtain ⟨⟨i0, i1, i2⟩, -⟩ := id hI
    have hC1 := hC.1
    have ex : ∀ f, riL t e (f + 1) k J = if 0 < k ∧ J t 4 ≤ J t 3 then ((k : Int), J) else if (cmR J t e).1 = 0 then (-1, (cmR J t e).2) else riL t e f (k + 1) (cmR J t e).2 := fun _ => rfl
    refine v_iload_n dX7_readInto_12 rfl ?_
    refine v_bipush dX7_readInto_13 (by decide) ?_
    refine v_ic_gt (tgt := 51) dX7_readInto_15 (by decide) (fun h15 => ?_) (fun h15 => ?_)
    · refine v_iconst dX7_readInto_51 ?_
      exact v_iE dX7_readInto_52 rfl (by rw [show 61 - k = 0 by omega]; rfl) (by rw [show 61 - k = 0 by omega]; rfl)
    · refine v_iload_n dX7_readInto_18 rfl ?_
      refine v_if_le (tgt := 35) dX7_readInto_19 (by decide) (fun h19 => ?_) (fun h19 => ?_)
      · refine v_aload_n dX7_readInto_35 rfl ?_
        refine v_aload_n dX7_readInto_36 rfl ?_
        refine v_cV1 dX7_readInto_37 lk_X7_28 (by assumption) (by decide) rfl (c_readCommand hfl hT hE het hW hI) (by decide) (Nat.le_of_ble_eq_true rfl) ?_ rfl
        refine v_if_ne (tgt := 45) dX7_readInto_40 (by decide) (fun h40 => ?_) (fun h40 => ?_)
        · refine v_iinc2 dX7_readInto_45 rfl ?_
          refine v_goto (tgt := 12) dX7_readInto_48 (by decide) ?_
          rw [show 61 - k = (61 - (k + 1)) + 1 by omega, ex, if_neg (by omega), if_neg (by omega)]
          exact v_fgt2 (ih (k + 1) (by omega) (by omega) _ hC.2.2 hC.2.1) (fgt_c (Or.inr rfl) (fgt_c (Or.inr rfl) (fgt_c (Or.inr rfl) (fgt_n))))
        · refine v_iconst dX7_readInto_43 ?_
          exact v_iE dX7_readInto_44 rfl (by rw [show 61 - k = (60 - k) + 1 by omega, ex, if_neg (by omega), if_pos (by omega)]) (by rw [show 61 - k = (60 - k) + 1 by omega, ex, if_neg (by omega), if_pos (by omega)])
      · refine v_aload_n dX7_readInto_22 rfl ?_
        refine v_geti dX7_readInto_23 fr_X7_25 (by assumption) (by decide) rfl ?_
        refine v_aload_n dX7_readInto_26 rfl ?_
        refine v_geti dX7_readInto_27 fr_X7_22 (by assumption) (by decide) rfl ?_
        refine v_ic_lt (tgt := 35) dX7_readInto_30 (by decide) (fun h30 => ?_) (fun h30 => ?_)
        · refine v_aload_n dX7_readInto_35 rfl ?_
          refine v_aload_n dX7_readInto_36 rfl ?_
          refine v_cV1 dX7_readInto_37 lk_X7_28 (by assumption) (by decide) rfl (c_readCommand hfl hT hE het hW hI) (by decide) (Nat.le_of_ble_eq_true rfl) ?_ rfl
          refine v_if_ne (tgt := 45) dX7_readInto_40 (by decide) (fun h40 => ?_) (fun h40 => ?_)
          · refine v_iinc2 dX7_readInto_45 rfl ?_
            refine v_goto (tgt := 12) dX7_readInto_48 (by decide) ?_
            rw [show 61 - k = (61 - (k + 1)) + 1 by omega, ex, if_neg (by omega), if_neg (by omega)]
            exact v_fgt2 (ih (k + 1) (by omega) (by omega) _ hC.2.2 hC.2.1) (fgt_c (Or.inr rfl) (fgt_c (Or.inr rfl) (fgt_c (Or.inr rfl) (fgt_n))))
          · refine v_iconst dX7_readInto_43 ?_
            exact v_iE dX7_readInto_44 rfl (by rw [show 61 - k = (60 - k) + 1 by omega, ex, if_neg (by omega), if_pos (by omega)]) (by rw [show 61 - k = (60 - k) + 1 by omega, ex, if_neg (by omega), if_pos (by omega)])
        · refine v_iload_n dX7_readInto_33 rfl ?_
          exact v_iE dX7_readInto_34 rfl (by rw [show 61 - k = (60 - k) + 1 by omega, ex, if_pos (by omega)]) (by rw [show 61 - k = (60 - k) + 1 by omega, ex, if_pos (by omega)])
  refine v_startE hfl rfl (by decide) (Nat.le_of_ble_eq_true rfl) (ls := [some (.ref t), some (.ref e), none]) rfl ?_
  refine v_aload_n dX7_readInto_0 rfl ?_
  refine v_iconst dX7_readInto_1 ?_
  refine v_puti dX7_readInto_2 fr_X7_25 (by assumption) (by decide) rfl ?_
  refine v_aload_n dX7_readInto_5 rfl ?_
  refine v_iconst dX7_readInto_6 ?_
  refine v_puti dX7_readInto_7 fr_X7_18 (by assumption) (by decide) rfl ?_
  refine v_iconst dX7_readInto_10 ?_
  refine v_istn2 dX7_readInto_11 rfl ?_
  exact L 0 (Nat.zero_le _) _ (WfT_of hW0 fun x h1 h2 => by rw [up_ne (by omega), up_ne (by omega)]) (TI_er (by unfold TI; rw [up_eq, up_nk (by omega), up_nk (by omega), up_ne (by omega), up_ne (by omega)]; obtain ⟨⟨i1, i2⟩, i3⟩ := hI0; exact ⟨by omega, i3⟩))
