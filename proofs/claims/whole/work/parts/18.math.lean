/-! MATH: the JDK's own max and min, by the kit's rows -/
def mxI (a b : Int) : Int := if a < b then b else a
def mnI (a b : Int) : Int := if b < a then b else a
section MA
variable {l : Launch} {g : GV} {mt : MT} {dp bc bs pc pc2 idx : Nat} {Z : ZZ} {ls : List (Option Value)} {st : List Value} {S : SS} {I : II} {X : XX} {a b : Int}
theorem v_mmax (hd : DC (mCc mt) pc (.invokestatic idx) 3 pc2) (hL : LKo (wS (mOwn mt) idx mJ9_max_7cf53) mJ9_max_7cf53 2) (hdp : 1 ≤ dp) (hst : (st.map fun v => v.category).sum ≤ 8) (k : V l g mt dp Z bc bs pc2 ls (.int (ii (mxI a b)) :: st) S I X) (ha : -2147483648 ≤ a ∧ a < 2147483648 := by omega) (hb : -2147483648 ≤ b ∧ b < 2147483648 := by omega) : V l g mt dp Z bc bs pc ls (.int (ii b) :: .int (ii a) :: st) S I X := by
  obtain ⟨hd1, rfl⟩ := hd
  intro p e s m args below meth c H locs cells slots R lsA hv
  obtain ⟨b1, b2, b3⟩ := hv.2.2.1
  obtain ⟨r1, r2⟩ := hv.2.1
  have ec : Lib.Math.max.code = cJ9_max_7cf53 := by first | rfl | decide +kernel
  have hw := fun w h => hv.1.2.2.2.2.2.1 w (hL.1 w h)
  have hv9 : (if ii a < ii b then ii b else ii a) = ii (mxI a b) := by
    unfold mxI
    by_cases h : a < b
    · rw [if_pos h, if_pos ((ii_lt ha hb).mpr h)]
    · rw [if_neg h, if_neg (fun q => h ((ii_lt ha hb).mp q))]
  refine va_mmax (rest := st.map (tv g)) hv.1.1 hv.1.2.1 (hv.1.2.2.2.1.trans hv.2.2.2.2.2.1.symm) hv.1.2.2.2.2.1 (hw (.methodLink (mOwn mt) idx (mY mJ9_max_7cf53)) (by simp [wS])) (hw (.static (mY mJ9_max_7cf53)) (by simp [wS])) (hw (.initialized (mOwn mJ9_max_7cf53)) (by simp [wS])) (by rw [ec]; exact hw (.code (mY mJ9_max_7cf53) (mCc mJ9_max_7cf53) (mNL mJ9_max_7cf53) (mRt mJ9_max_7cf53)) (by simp [wS])) (by omega) (by rw [cat_sum]; omega) (by omega) (by omega) hd1 ?_
  rw [hv9]
  exact k p e s m args below meth c H locs cells slots R lsA hv
theorem v_mmin (hd : DC (mCc mt) pc (.invokestatic idx) 3 pc2) (hL : LKo (wS (mOwn mt) idx mJ9_min_7cf53) mJ9_min_7cf53 2) (hdp : 1 ≤ dp) (hst : (st.map fun v => v.category).sum ≤ 8) (k : V l g mt dp Z bc bs pc2 ls (.int (ii (mnI a b)) :: st) S I X) (ha : -2147483648 ≤ a ∧ a < 2147483648 := by omega) (hb : -2147483648 ≤ b ∧ b < 2147483648 := by omega) : V l g mt dp Z bc bs pc ls (.int (ii b) :: .int (ii a) :: st) S I X := by
  obtain ⟨hd1, rfl⟩ := hd
  intro p e s m args below meth c H locs cells slots R lsA hv
  obtain ⟨b1, b2, b3⟩ := hv.2.2.1
  obtain ⟨r1, r2⟩ := hv.2.1
  have ec : Lib.Math.min.code = cJ9_min_7cf53 := by first | rfl | decide +kernel
  have hw := fun w h => hv.1.2.2.2.2.2.1 w (hL.1 w h)
  have hv9 : (if ii b < ii a then ii b else ii a) = ii (mnI a b) := by
    unfold mnI
    by_cases h : b < a
    · rw [if_pos h, if_pos ((ii_lt hb ha).mpr h)]
    · rw [if_neg h, if_neg (fun q => h ((ii_lt hb ha).mp q))]
  refine va_mmin (rest := st.map (tv g)) hv.1.1 hv.1.2.1 (hv.1.2.2.2.1.trans hv.2.2.2.2.2.1.symm) hv.1.2.2.2.2.1 (hw (.methodLink (mOwn mt) idx (mY mJ9_min_7cf53)) (by simp [wS])) (hw (.static (mY mJ9_min_7cf53)) (by simp [wS])) (hw (.initialized (mOwn mJ9_min_7cf53)) (by simp [wS])) (by rw [ec]; exact hw (.code (mY mJ9_min_7cf53) (mCc mJ9_min_7cf53) (mNL mJ9_min_7cf53) (mRt mJ9_min_7cf53)) (by simp [wS])) (by omega) (by rw [cat_sum]; omega) (by omega) (by omega) hd1 ?_
  rw [hv9]
  exact k p e s m args below meth c H locs cells slots R lsA hv
theorem v_mminL (hd : DC (mCc mt) pc (.invokestatic idx) 3 pc2) (hL : LKo (wS (mOwn mt) idx mJ9_min_f86c9) mJ9_min_f86c9 2) (hdp : 1 ≤ dp) (hst : (st.map fun v => v.category).sum ≤ 8) (k : V l g mt dp Z bc bs pc2 ls (.long (jj (mnI a b)) :: st) S I X) (ha : -9223372036854775808 ≤ a ∧ a < 9223372036854775808 := by omega) (hb : -9223372036854775808 ≤ b ∧ b < 9223372036854775808 := by omega) : V l g mt dp Z bc bs pc ls (.long (jj b) :: .long (jj a) :: st) S I X := by
  obtain ⟨hd1, rfl⟩ := hd
  intro p e s m args below meth c H locs cells slots R lsA hv
  obtain ⟨b1, b2, b3⟩ := hv.2.2.1
  obtain ⟨r1, r2⟩ := hv.2.1
  have ec : Lib.MathLoose.min_long.code = cJ9_min_f86c9 := by first | rfl | decide +kernel
  have hw := fun w h => hv.1.2.2.2.2.2.1 w (hL.1 w h)
  have hv9 : (if jj b < jj a then jj b else jj a) = jj (mnI a b) := by
    unfold mnI
    by_cases h : b < a
    · rw [if_pos h, if_pos ((jj_lt hb ha).mpr h)]
    · rw [if_neg h, if_neg (fun q => h ((jj_lt hb ha).mp q))]
  refine va_mmin_long (rest := st.map (tv g)) hv.1.1 hv.1.2.1 (hv.1.2.2.2.1.trans hv.2.2.2.2.2.1.symm) hv.1.2.2.2.2.1 (hw (.methodLink (mOwn mt) idx (mY mJ9_min_f86c9)) (by simp [wS])) (hw (.static (mY mJ9_min_f86c9)) (by simp [wS])) (hw (.initialized (mOwn mJ9_min_f86c9)) (by simp [wS])) (by rw [ec]; exact hw (.code (mY mJ9_min_f86c9) (mCc mJ9_min_f86c9) (mNL mJ9_min_f86c9) (mRt mJ9_min_f86c9)) (by simp [wS])) (by omega) (by rw [cat_sum]; omega) (by omega) (by omega) hd1 ?_
  rw [hv9]
  exact k p e s m args below meth c H locs cells slots R lsA hv
end MA
