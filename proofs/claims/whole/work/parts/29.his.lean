/-! HISTORY -/
def isHis (S : SS) (h : Nat) (sl : Nat → Nat) : Prop := S.1[h]? = some (4, 2) ∧ S.2.1 h 0 = some (h + 1) ∧ S.1[h + 1]? = some (23, 8) ∧ ∀ k, k < 8 → S.2.1 (h + 1) k = some (sl k) ∧ isEl S (sl k) ∧ h + 2 ≤ sl k
def rotP (P : Nat → Nat → Option Nat) (h : Nat) : Nat → Nat → Option Nat := fun b => if b = h + 1 then (fun k => if k < 7 then P b (k + 1) else if k = 7 then P b 0 else P b k) else P b
def rotS (S : SS) (h : Nat) : SS := (S.1, rotP S.2.1 h, S.2.2)
def rotL (sl : Nat → Nat) (k : Nat) : Nat := if k < 7 then sl (k + 1) else sl 0
theorem isEl_of {S S2 : SS} {e : Nat} (h : isEl S e) (h1 : S2.1 = S.1) (hp : ∀ b, e ≤ b → b < e + 31 → S2.2.1 b = S.2.1 b) : isEl S2 e := by
  obtain ⟨y0, y1, y1a, y2, y2a, y3, y3a, y4, y4a, y5, y5a, yr⟩ := h
  unfold isEl
  rw [h1, hp e (by omega) (by omega), hp (e + 5) (by omega) (by omega)]
  exact ⟨y0, y1, y1a, y2, y2a, y3, y3a, y4, y4a, y5, y5a, yr⟩
theorem rotP_ne {P : Nat → Nat → Option Nat} {h b : Nat} (hb : b ≠ h + 1) : rotP P h b = P b := if_neg hb
theorem isHis_rot {S : SS} {h : Nat} {sl : Nat → Nat} (H : isHis S h sl) : isHis (rotS S h) h (rotL sl) := by
  obtain ⟨a0, a1, a2, a3⟩ := H
  refine ⟨a0, (congrFun (rotP_ne (by omega)) 0).trans a1, a2, fun k hk => ?_⟩
  have e1 : rotP S.2.1 h (h + 1) k = some (rotL sl k) := by
    unfold rotP rotL
    rw [if_pos rfl]
    by_cases q : k < 7
    · rw [if_pos q, if_pos q]
      exact (a3 (k + 1) (by omega)).1
    · rw [if_neg q, if_neg q, if_pos (show k = 7 by omega)]
      exact (a3 0 (by omega)).1
  have e2 : ∃ j, j < 8 ∧ rotL sl k = sl j := by
    unfold rotL
    split
    · exact ⟨k + 1, by omega, rfl⟩
    · exact ⟨0, by omega, rfl⟩
  obtain ⟨j, hj, ej⟩ := e2
  rw [ej] at e1 ⊢
  obtain ⟨b1, b2, b3⟩ := a3 j hj
  exact ⟨e1, isEl_of b2 rfl (fun b q1 q2 => rotP_ne (by omega)), b3⟩
section HC
variable {l : Launch} {g : GV} {mt mt2 : MT} {dp dp2 bc bs pc pc2 idx : Nat} {Z : ZZ} {ls : List (Option Value)} {st : List Value} {S S2 : SS} {I I2 : II} {X : XX}
/-- a call that also turns pointers -/
theorem v_cV0nS {a ci nn : Nat} (hd : DC (mCc mt) pc (.invokevirtual idx) 3 pc2) (hL : LKo (wV (mOwn mt) idx mt2) mt2 0) (ha : S.1[a]? = some (ci, nn)) (hci : ci < 20) (hcl : (gCl[ci]?).map (fun q => q.1) = some (mOwn mt2)) (hC : CT l g mt2 dp2 0 0 [.ref a] S I X (QE none S2 I2 X)) (hS : S2.2.2 = S.2.2) (hdp : dp2 + 1 ≤ dp) (hst : (st.map fun v => v.category).sum ≤ 8) (k : V l g mt dp Z bc bs pc2 ls st S2 I2 X) (hh : mHh mt2 = []) : V l g mt dp Z bc bs pc ls (.ref a :: st) S I X :=
  v_callV (As := []) (Q2 := QE none S2 I2 X) hd hL hh rfl ha hci hcl hC hdp hst (fun _ _ _ _ => qe_no) (fun _ _ _ _ h hx => by rw [← hS, ← h.2.1]; exact hx) (Nat.zero_add bc).symm (Nat.zero_add bs).symm (fun u S3 I3 X3 h => by obtain ⟨h1, rfl, rfl, rfl⟩ := h; cases h1; exact k)
theorem v_cV1nS {x1 : Value} {a ci nn : Nat} (hd : DC (mCc mt) pc (.invokevirtual idx) 3 pc2) (hL : LKo (wV (mOwn mt) idx mt2) mt2 1) (ha : S.1[a]? = some (ci, nn)) (hci : ci < 20) (hcl : (gCl[ci]?).map (fun q => q.1) = some (mOwn mt2)) (hC : CT l g mt2 dp2 0 0 [.ref a, x1] S I X (QE none S2 I2 X)) (hS : S2.2.2 = S.2.2) (hdp : dp2 + 1 ≤ dp) (hst : (st.map fun v => v.category).sum ≤ 8) (k : V l g mt dp Z bc bs pc2 ls st S2 I2 X) (hh : mHh mt2 = []) : V l g mt dp Z bc bs pc ls (x1 :: .ref a :: st) S I X :=
  v_callV (As := [x1]) (Q2 := QE none S2 I2 X) hd hL hh rfl ha hci hcl hC hdp hst (fun _ _ _ _ => qe_no) (fun _ _ _ _ h hx => by rw [← hS, ← h.2.1]; exact hx) (Nat.zero_add bc).symm (Nat.zero_add bs).symm (fun u S3 I3 X3 h => by obtain ⟨h1, rfl, rfl, rfl⟩ := h; cases h1; exact k)
end HC

set_option maxRecDepth 100000 in
set_option maxHeartbeats 4000000 in
theorem c_forgetAll {l : Launch} {g : GV} {S : SS} {I : II} {X : XX} {h : Nat} {sl : Nat → Nat} (hfl : l.stackTraces = false) (hH : isHis S h sl) : CE l g mX4_forgetAll 0 [.ref h] S I X none (up I h 1 0) := by
  obtain ⟨a0, a1, a2, a3⟩ := id hH
  refine v_startE hfl rfl (by decide) (Nat.le_of_ble_eq_true rfl) (ls := [some (.ref h)]) rfl ?_
  refine v_aload_n dX4_forgetAll_0 rfl ?_
  refine v_iconst dX4_forgetAll_1 ?_
  refine v_puti dX4_forgetAll_2 fr_X4_18 (by assumption) (by decide) rfl ?_
  exact v_vE dX4_forgetAll_5 rfl (rfl)

set_option maxRecDepth 100000 in
set_option maxHeartbeats 4000000 in
theorem c_forgetOldest {l : Launch} {g : GV} {S : SS} {I : II} {X : XX} {h : Nat} {sl : Nat → Nat} (hfl : l.stackTraces = false) (hH : isHis S h sl) : CT l g mX4_forgetOldest 0 0 0 [.ref h] S I X (QE none (rotS S h) (up I h 1 7) X) := by
  obtain ⟨a0, a1, a2, a3⟩ := id hH
  have L : ∀ i : Nat, i ≤ 8 → ∀ T : Nat → Nat → Option Nat, 1 ≤ i → (∀ b k, T b k = if b = h + 1 ∧ k + 1 < i then S.2.1 b (k + 1) else S.2.1 b k) → V l g mX4_forgetOldest 0 (Zm g (QE none (rotS S h) (up I h 1 7) X)) 0 0 9 [some (.ref h), some (.ref (sl 0)), some (.int (ii (i : Int)))] [] (S.1, T, S.2.2) I X := by
    refine loop_up fun i hi ih => ?_
    intro T hi1 hT
    refine v_iload_n dX4_forgetOldest_9 rfl ?_
    refine v_bipush dX4_forgetOldest_10 (by decide) ?_
    refine v_ic_ge (tgt := 35) dX4_forgetOldest_12 (by decide) (fun h12 => ?_) (fun h12 => ?_)
    · refine v_aload_n dX4_forgetOldest_35 rfl ?_
      refine v_getr dX4_forgetOldest_36 fr_X4_11 (by assumption) (by decide) rfl (by show T h 0 = _; rw [hT, if_neg (by omega)]; exact a1) ?_
      refine v_bipush dX4_forgetOldest_39 (by decide) ?_
      refine v_aload_n dX4_forgetOldest_41 rfl ?_
      refine v_aast (j := 7) dX4_forgetOldest_42 (by assumption) (a3 0 (by omega)).2.1.1 rfl (by omega) ?_
      refine v_aload_n dX4_forgetOldest_43 rfl ?_
      refine v_bipush dX4_forgetOldest_44 (by decide) ?_
      refine v_puti dX4_forgetOldest_46 fr_X4_18 (by assumption) (by decide) rfl ?_
      have hfin : (S.1, upP T (h + 1) 7 (some (sl 0)), S.2.2) = rotS S h := by
        have h2 : upP T (h + 1) 7 (some (sl 0)) = rotP S.2.1 h := by
          funext b
          by_cases hb : b = h + 1
          · subst hb
            funext k
            unfold upP rotP
            rw [if_pos rfl, if_pos rfl]
            show (if k = 7 then _ else T (h + 1) k) = if k < 7 then _ else if k = 7 then _ else _
            by_cases k7 : k = 7
            · rw [if_pos k7, if_neg (by omega), if_pos k7]; exact (a3 0 (by omega)).1.symm
            · rw [if_neg k7, hT]
              by_cases k6 : k < 7
              · rw [if_pos ⟨rfl, by omega⟩, if_pos k6]
              · rw [if_neg (by omega), if_neg k6, if_neg k7]
          · unfold upP rotP
            rw [if_neg hb, if_neg hb]
            funext k
            rw [hT, if_neg (by omega)]
        rw [h2]; rfl
      exact v_vret dX4_forgetOldest_49 rfl ⟨rfl, hfin, rfl, rfl⟩ (fun _ => rfl)
    · refine v_aload_n dX4_forgetOldest_15 rfl ?_
      refine v_getr dX4_forgetOldest_16 fr_X4_11 (by assumption) (by decide) rfl (by show T h 0 = _; rw [hT, if_neg (by omega)]; exact a1) ?_
      refine v_iload_n dX4_forgetOldest_19 rfl ?_
      refine v_iconst dX4_forgetOldest_20 ?_
      refine v_isub dX4_forgetOldest_21 ?_
      refine v_aload_n dX4_forgetOldest_22 rfl ?_
      refine v_getr dX4_forgetOldest_23 fr_X4_11 (by assumption) (by decide) rfl (by show T h 0 = _; rw [hT, if_neg (by omega)]; exact a1) ?_
      refine v_iload_n dX4_forgetOldest_26 rfl ?_
      refine v_aald23 (j := i) dX4_forgetOldest_27 (by assumption) rfl (by omega) (by show T (h + 1) i = _; rw [hT, if_neg (by omega)]; exact (a3 i (by omega)).1) ?_
      refine v_aast (j := i - 1) dX4_forgetOldest_28 (by assumption) (a3 i (by omega)).2.1.1 (by omega) (by omega) ?_
      refine v_iinc2 dX4_forgetOldest_29 rfl ?_
      refine v_goto (tgt := 9) dX4_forgetOldest_32 (by decide) ?_
      refine ih (i + 1) (by omega) (by omega) _ (by omega) ?_
      intro b k
      unfold upP
      by_cases hb : b = h + 1
      · subst hb
        rw [if_pos rfl]
        show (if k = i - 1 then some (sl i) else T (h + 1) k) = _
        by_cases hk : k = i - 1
        · subst hk
          rw [if_pos rfl, if_pos ⟨rfl, by omega⟩, show i - 1 + 1 = i by omega]; exact (a3 i (by omega)).1.symm
        · rw [if_neg hk, hT]
          by_cases hk2 : k + 1 < i
          · rw [if_pos ⟨rfl, hk2⟩, if_pos ⟨rfl, by omega⟩]
          · rw [if_neg (by omega), if_neg (by omega)]
      · rw [if_neg hb]
        show T b k = _
        rw [hT, if_neg (by omega), if_neg (by omega)]
  refine v_start hfl rfl (by decide) (Nat.le_of_ble_eq_true rfl) (ls := [some (.ref h), none, none]) rfl ?_
  refine v_aload_n dX4_forgetOldest_0 rfl ?_
  refine v_getr dX4_forgetOldest_1 fr_X4_11 (by assumption) (by decide) rfl (by assumption) ?_
  refine v_iconst dX4_forgetOldest_4 ?_
  refine v_aald23 (j := 0) dX4_forgetOldest_5 (by assumption) (by first | rfl | omega) (by omega) ((a3 0 (by omega)).1) ?_
  refine v_astn1 dX4_forgetOldest_6 rfl ?_
  refine v_iconst dX4_forgetOldest_7 ?_
  refine v_istn2 dX4_forgetOldest_8 rfl ?_
  exact L 1 (by omega) S.2.1 (Nat.le_refl _) (fun b k => (if_neg (by omega)).symm)

/-- the slot that remembers, the pointers and the cells behind it -/
def reL (sl : Nat → Nat) (n : Nat) : Nat := if n < 8 then sl n else sl 0
def reS (S : SS) (h n : Nat) : SS := if n < 8 then S else rotS S h
def reB (I : II) (h n : Nat) : II := if n < 8 then I else up I h 1 7
def reM (I : II) (h e n : Nat) (sl : Nat → Nat) : II := up (cpyE (reB I h n) e (reL sl n)) h 1 (reB I h n h 1 + 1)
theorem cpyE_e {I : II} {e d x : Nat} (h : x < d ∨ d + 31 ≤ x) : cpyE I e d x = I x := by
  have L : ∀ k, k ≤ 25 → ∀ J : II, J x = I x → foldUp (fun p J => cpy J (e + 6 + p) (d + 6 + p) 0 0 8) J k x = I x := by
    intro k
    induction k with
    | zero => exact fun _ _ h => h
    | succ k ih => exact fun hk J hJ => (cpy_ne (by omega)).trans (ih (by omega) J hJ)
  exact L 25 (Nat.le_refl _) _ (by rw [cpy_ne (by omega), cpy_ne (by omega), cpy_ne (by omega), cpy_ne (by omega), up_ne (by omega), up_ne (by omega), up_ne (by omega)])

set_option maxRecDepth 100000 in
set_option maxHeartbeats 4000000 in
theorem c_rememberT {l : Launch} {g : GV} {S : SS} {I : II} {X : XX} {h e n : Nat} {sl : Nat → Nat} {x : Option Value} (hfl : l.stackTraces = false) (hH : isHis S h sl) (hE : isEl S e) (hn : I h 1 = (n : Int)) (hn8 : n < 8) : V l g mX4_remember 2 (Zm g (QE none S (up (cpyE I e (sl n)) h 1 (I h 1 + 1)) X)) 0 0 13 [some (.ref h), some (.ref e), x] [] S I X := by
  obtain ⟨a0, a1, a2, a3⟩ := id hH
  have aE := (a3 n hn8).2.1.1
  refine v_aload_n dX4_remember_13 rfl ?_
  refine v_getr dX4_remember_14 fr_X4_11 (by assumption) (by decide) rfl a1 ?_
  refine v_aload_n dX4_remember_17 rfl ?_
  refine v_geti dX4_remember_18 fr_X4_18 (by assumption) (by decide) rfl ?_
  refine v_aald23 (j := n) dX4_remember_21 (by assumption) (by first | rfl | omega) (by omega) (a3 n hn8).1 ?_
  refine v_astn2 dX4_remember_22 rfl ?_
  refine v_aload_n dX4_remember_23 rfl ?_
  refine v_ifnull dX4_remember_24 ?_
  refine v_aload_n dX4_remember_27 rfl ?_
  refine v_aload_n dX4_remember_28 rfl ?_
  refine v_cV1n dX4_remember_29 lk_X4_25 (by assumption) (by decide) rfl (c_copyFrom hfl hE (a3 n hn8).2.1) (by decide) (Nat.le_of_ble_eq_true rfl) ?_ rfl
  refine v_aload_n dX4_remember_32 rfl ?_
  refine v_dup dX4_remember_33 rfl ?_
  refine v_geti dX4_remember_34 fr_X4_18 (by assumption) (by decide) rfl ?_
  rw [cpyE_e (Or.inl (by have := (a3 n hn8).2.2; omega))]
  refine v_iconst dX4_remember_37 ?_
  refine v_iadd dX4_remember_38 ?_
  refine v_puti dX4_remember_39 fr_X4_18 (by assumption) (by decide) rfl ?_
  exact v_vE dX4_remember_42 rfl (rfl)

set_option maxRecDepth 100000 in
set_option maxHeartbeats 4000000 in
theorem c_remember {l : Launch} {g : GV} {S : SS} {I : II} {X : XX} {h e n : Nat} {sl : Nat → Nat} (hfl : l.stackTraces = false) (hH : isHis S h sl) (hE : isEl S e) (hhe : h + 2 ≤ e ∨ e + 31 ≤ h) (hn : I h 1 = (n : Int)) (hn8 : n ≤ 8) : CT l g mX4_remember 2 0 0 [.ref h, .ref e] S I X (QE none (reS S h n) (reM I h e n sl) X) := by
  obtain ⟨a0, a1, a2, a3⟩ := id hH
  refine v_start hfl rfl (by decide) (Nat.le_of_ble_eq_true rfl) (ls := [some (.ref h), some (.ref e), none]) rfl ?_
  refine v_aload_n dX4_remember_0 rfl ?_
  refine v_geti dX4_remember_1 fr_X4_18 (by assumption) (by decide) rfl ?_
  refine v_bipush dX4_remember_4 (by decide) ?_
  refine v_ic_lt (tgt := 13) dX4_remember_6 (by decide) (fun h6 => ?_) (fun h6 => ?_)
  · have q := c_rememberT (x := none) (X := X) (g := g) hfl hH hE hn (by omega)
    unfold reS reM reL reB
    rw [if_pos (by omega), if_pos (by omega), if_pos (by omega)]
    exact q
  · refine v_aload_n dX4_remember_9 rfl ?_
    obtain rfl : n = 8 := by omega
    refine v_cV0nS dX4_remember_10 lk_X4_22 (by assumption) (by decide) rfl (c_forgetOldest hfl hH) rfl (by decide) (Nat.le_of_ble_eq_true rfl) ?_ rfl
    exact c_rememberT (n := 7) hfl (isHis_rot hH) (isEl_of hE rfl (fun b q1 q2 => rotP_ne (by omega))) up_eq (by omega)

set_option maxRecDepth 100000 in
set_option maxHeartbeats 4000000 in
theorem c_takeBack {l : Launch} {g : GV} {S : SS} {I : II} {X : XX} {h e n : Nat} {sl : Nat → Nat} (hfl : l.stackTraces = false) (hH : isHis S h sl) (hE : isEl S e) (hn : I h 1 = (n : Int) + 1) (hn8 : n < 8) : CE l g mX4_takeBack 2 [.ref h, .ref e] S I X none (cpyE (up I h 1 (I h 1 - 1)) (sl n) e) := by
  obtain ⟨a0, a1, a2, a3⟩ := id hH
  have aE := (a3 n hn8).2.1.1
  have aF := hE.1
  refine v_startE hfl rfl (by decide) (Nat.le_of_ble_eq_true rfl) (ls := [some (.ref h), some (.ref e), none]) rfl ?_
  refine v_aload_n dX4_takeBack_0 rfl ?_
  refine v_geti dX4_takeBack_1 fr_X4_18 (by assumption) (by decide) rfl ?_
  refine v_if_gt (tgt := 8) dX4_takeBack_4 (by decide) (fun h4 => ?_) (fun h4 => ?_)
  · refine v_aload_n dX4_takeBack_8 rfl ?_
    refine v_dup dX4_takeBack_9 rfl ?_
    refine v_geti dX4_takeBack_10 fr_X4_18 (by assumption) (by decide) rfl ?_
    refine v_iconst dX4_takeBack_13 ?_
    refine v_isub dX4_takeBack_14 ?_
    refine v_puti dX4_takeBack_15 fr_X4_18 (by assumption) (by decide) rfl ?_
    refine v_aload_n dX4_takeBack_18 rfl ?_
    refine v_getr dX4_takeBack_19 fr_X4_11 (by assumption) (by decide) rfl a1 ?_
    refine v_aload_n dX4_takeBack_22 rfl ?_
    refine v_geti dX4_takeBack_23 fr_X4_18 (by assumption) (by decide) rfl ?_
    rw [up_eq]
    refine v_aald23 (j := n) dX4_takeBack_26 (by assumption) (by omega) (by omega) (a3 n hn8).1 ?_
    refine v_astn2 dX4_takeBack_27 rfl ?_
    refine v_aload_n dX4_takeBack_28 rfl ?_
    refine v_ifnull dX4_takeBack_29 ?_
    refine v_aload_n dX4_takeBack_32 rfl ?_
    refine v_aload_n dX4_takeBack_33 rfl ?_
    refine v_cV1n dX4_takeBack_34 lk_X4_25 (by assumption) (by decide) rfl (c_copyFrom hfl (a3 n hn8).2.1 hE) (by decide) (Nat.le_of_ble_eq_true rfl) ?_ rfl
    exact v_vE dX4_takeBack_37 rfl (rfl)
  · exfalso; omega
