/-! THE MODEL: its public methods, without a count -/
def stM (J : II) (a : Int) : II := up (up (up (foldUp (fun k K => up K 509 (7 + k) (k : Int)) (up (up (up J 509 0 a) 509 1 0) 509 2 0) 8) 508 3 0) 508 43 0) 508 14 0
def tBg (a b : Int) : Int := if inF a 2 8 = 0 ∨ inF b 1 7 = 0 then 1 else 0
def bgM (J : II) (a b : Int) : Int × II := if tBg a b = 0 then (J 509 0, up (stM (up J 508 6 0) a) 509 6 b) else (0, up J 508 6 (tBg a b))
def tSt (a b : Int) : Int := if inF a 0 3 = 0 ∨ inF b (lsF a) (gsF a) = 0 then 1 else 0
def seM (J : II) (a b : Int) : Int × II := if tSt a b = 0 then (J 509 (3 + a.toNat), up (puM (up J 508 6 0) 509) 509 (3 + a.toNat) b) else (0, up J 508 6 (tSt a b))
def tWd (J : II) (c : Int) : Int := if inF c 0 (J 509 0 - 1) = 0 then 1 else 0
def wdM (J : II) (c : Int) : Int × II := if tWd J c = 0 then (btI (xr (J 509 2).toNat c.toNat) c.toNat, up (puM (up J 508 6 0) 509) 509 2 (xr (J 509 2).toNat c.toNat : Nat)) else (0, up J 508 6 (tWd J c))
def tPl (J : II) (z w : Int) : Int := if inF z 0 (J 509 1 - 1) = 0 then 1 else if inF w 0 1 = 0 ∧ (w < 10 ∨ mLn J z.toNat ≤ w - 10) then 2 else 0
def plM (J : II) (z w : Int) : Int × II := if tPl J z w = 0 then (if w = 0 then mSz J z.toNat else if w = 1 then mLn J z.toNat else mRk J z.toNat (w - 10).toNat, up J 508 6 0) else (0, up J 508 6 (tPl J z w))
def dgM (J : II) (p : Nat) : Int := if 9 < mSz J p then 2 else 1
def t1C (J : II) (z : Int) : Int := if inF z 0 (J 509 1 - 1) = 0 then 1 else 0
def dg1 (J : II) (z : Int) : Int := if t1C J z ≤ 0 then dgM J z.toNat else 0
def al1 (J : II) (z : Int) : Int := if t1C J z ≤ 0 then dgM J z.toNat + mLn J z.toNat + 2 else 0
def tCh (J : II) (z x : Int) : Int := if 0 < t1C J z ∨ inF x (-1) (al1 J z - 1) = 0 then 1 else 0
def sgM (J : II) (p : Nat) (x : Int) : Int := if x < dgM J p then 48 + (if x + 1 = dgM J p then mSz J p - dvI (mSz J p) 10 * 10 else dvI (mSz J p) 10) else if x = dgM J p then 58 else if x = dgM J p + mLn J p + 2 - 1 then 59 else 97 + mRk J p (x - dgM J p - 1).toNat
def chM9 (J : II) (z x : Int) : Int × II := (if tCh J z x ≤ 0 then (if x < 0 then al1 J z else sgM J z.toNat x) else 0, up (up J 508 6 (t1C J z)) 508 6 (tCh J z x))
def tPf (J : II) (c o : Int) : Int := if inF c 0 (J 509 0 - 1) = 0 ∨ inF o 0 (J 509 0 - 1) = 0 then 1 else 0
def pfM (J : II) (c o : Int) : Int × II := if tPf J c o = 0 then (mPf J c o (J 509 1).toNat, up J 508 6 0) else (0, up J 508 6 (tPf J c o))
def ptS (J : II) (c : Int) : Nat → Int
  | 0 => 0
  | k + 1 => ptS J c k + mPf J c k (J 509 1).toNat
def ptM (J : II) (c : Int) : Int × II := if tWd J c = 0 then (ptS J c (J 509 0).toNat, up J 508 6 0) else (0, up J 508 6 (tWd J c))
theorem mPf_s {J K : II} (h : K 509 = J 509) (c o : Int) : ∀ n, mPf K c o n = mPf J c o n
  | 0 => rfl
  | n + 1 => by
    unfold mPf
    rw [mPf_s h c o n]
    have e1 : mLn K n = mLn J n := by unfold mLn; rw [h]
    have e2 : mRk K n = mRk J n := by funext k; unfold mRk; rw [h]
    have e3 : mSz K n = mSz J n := by unfold mSz; rw [h]
    unfold mPo
    rw [e1, e2, e3]

set_option maxRecDepth 100000 in
set_option maxHeartbeats 4000000 in
theorem k_start {l : Launch} {g : GV} {S : SS} {I : II} {X : XX} {a : Int} (hfl : l.stackTraces = false) (hM : isMod S) : CE l g mX9_start 0 [.ref 508, .int (ii a)] S I X none (stM I a) := by
  obtain ⟨m0, ⟨p509, q509⟩, ⟨p510, q510⟩, ⟨p511, q511⟩, ⟨p512, q512⟩, ⟨p513, q513⟩, ⟨p514, q514⟩, ⟨p515, q515⟩, ⟨p516, q516⟩, ⟨p517, q517⟩, ⟨p518, q518⟩, ⟨p519, q519⟩, ⟨p520, q520⟩, ⟨p521, q521⟩, ⟨p522, q522⟩, ⟨p523, q523⟩, ⟨p524, q524⟩, ⟨p525, q525⟩, ⟨p526, q526⟩, ⟨p527, q527⟩, ⟨p528, q528⟩, ⟨p529, q529⟩, ⟨p530, q530⟩, ⟨p531, q531⟩, ⟨p532, q532⟩, ⟨p533, q533⟩, ⟨p534, q534⟩, ⟨p535, q535⟩, ⟨p536, q536⟩, ⟨p537, q537⟩, ⟨p538, q538⟩, ⟨p539, q539⟩, ⟨p540, q540⟩⟩ := id hM
  have L : ∀ k : Nat, k ≤ 8 → V l g mX9_start 0 (Zm g (QE none S (stM I a) X)) 0 0 23 [some (.ref 508), some (.int (ii a)), some (.int (ii (k : Int)))] [] S (foldUp (fun k K => up K 509 (7 + k) (k : Int)) (up (up (up I 509 0 a) 509 1 0) 509 2 0) k) X := by
    refine loop_up fun k hk ih => ?_
    refine v_iload_n dX9_start_23 rfl ?_
    refine v_bipush dX9_start_24 (by decide) ?_
    refine v_ic_ge (tgt := 45) dX9_start_26 (by decide) (fun h26 => ?_) (fun h26 => ?_)
    · obtain rfl : k = 8 := by omega
      refine v_aload_n dX9_start_45 rfl ?_
      refine v_iconst dX9_start_46 ?_
      refine v_puti dX9_start_47 fr_X9_126 (by assumption) (by decide) rfl ?_
      refine v_aload_n dX9_start_50 rfl ?_
      refine v_iconst dX9_start_51 ?_
      refine v_putz dX9_start_52 fr_X9_129 (by assumption) (by decide) rfl (by first | exact Or.inl rfl | exact Or.inr rfl | omega) ?_
      refine v_aload_n dX9_start_55 rfl ?_
      refine v_iconst dX9_start_56 ?_
      refine v_putz dX9_start_57 fr_X9_133 (by assumption) (by decide) rfl (by first | exact Or.inl rfl | exact Or.inr rfl | omega) ?_
      exact v_vE dX9_start_60 rfl (rfl)
    · refine v_aload_n dX9_start_29 rfl ?_
      refine v_getr dX9_start_30 fr_X9_9 (by assumption) (by decide) rfl (by assumption) ?_
      refine v_bipush dX9_start_33 (by decide) ?_
      refine v_iload_n dX9_start_35 rfl ?_
      refine v_iadd dX9_start_36 ?_
      refine v_iload_n dX9_start_37 rfl ?_
      refine v_iast (j := 7 + k) dX9_start_38 (by assumption) (by omega) (by omega) ?_
      refine v_iinc2 dX9_start_39 rfl ?_
      refine v_goto (tgt := 23) dX9_start_42 (by decide) ?_
      exact ih (k + 1) (by omega) (by omega)
  refine v_startE hfl rfl (by decide) (Nat.le_of_ble_eq_true rfl) (ls := [some (.ref 508), some (.int (ii a)), none]) rfl ?_
  refine v_aload_n dX9_start_0 rfl ?_
  refine v_getr dX9_start_1 fr_X9_9 (by assumption) (by decide) rfl (by assumption) ?_
  refine v_iconst dX9_start_4 ?_
  refine v_iload_n dX9_start_5 rfl ?_
  refine v_iast (j := 0) dX9_start_6 (by assumption) (by first | rfl | omega) (by omega) ?_
  refine v_aload_n dX9_start_7 rfl ?_
  refine v_getr dX9_start_8 fr_X9_9 (by assumption) (by decide) rfl (by assumption) ?_
  refine v_iconst dX9_start_11 ?_
  refine v_iconst dX9_start_12 ?_
  refine v_iast (j := 1) dX9_start_13 (by assumption) (by first | rfl | omega) (by omega) ?_
  refine v_aload_n dX9_start_14 rfl ?_
  refine v_getr dX9_start_15 fr_X9_9 (by assumption) (by decide) rfl (by assumption) ?_
  refine v_iconst dX9_start_18 ?_
  refine v_iconst dX9_start_19 ?_
  refine v_iast (j := 2) dX9_start_20 (by assumption) (by first | rfl | omega) (by omega) ?_
  refine v_iconst dX9_start_21 ?_
  refine v_istn2 dX9_start_22 rfl ?_
  exact L 0 (Nat.zero_le _)

set_option maxRecDepth 100000 in
set_option maxHeartbeats 4000000 in
theorem k_begin {l : Launch} {g : GV} {S : SS} {I : II} {X : XX} {a b : Int} (hfl : l.stackTraces = false) (hM : isMod S) (hMI : MI I) (ha : -2147483648 ≤ a ∧ a < 2147483648) (hb : -2147483648 ≤ b ∧ b < 2147483648) : CE l g mX9_begin 1 [.ref 508, .int (ii a), .int (ii b)] S I X (some (.int (ii (bgM I a b).1))) (bgM I a b).2 := by
  obtain ⟨m0, ⟨p509, q509⟩, ⟨p510, q510⟩, ⟨p511, q511⟩, ⟨p512, q512⟩, ⟨p513, q513⟩, ⟨p514, q514⟩, ⟨p515, q515⟩, ⟨p516, q516⟩, ⟨p517, q517⟩, ⟨p518, q518⟩, ⟨p519, q519⟩, ⟨p520, q520⟩, ⟨p521, q521⟩, ⟨p522, q522⟩, ⟨p523, q523⟩, ⟨p524, q524⟩, ⟨p525, q525⟩, ⟨p526, q526⟩, ⟨p527, q527⟩, ⟨p528, q528⟩, ⟨p529, q529⟩, ⟨p530, q530⟩, ⟨p531, q531⟩, ⟨p532, q532⟩, ⟨p533, q533⟩, ⟨p534, q534⟩, ⟨p535, q535⟩, ⟨p536, q536⟩, ⟨p537, q537⟩, ⟨p538, q538⟩, ⟨p539, q539⟩, ⟨p540, q540⟩⟩ := id hM
  obtain ⟨w0, w1, w2, w3, w4, w5, w6, w7, w8, w9, w10⟩ := id hMI.1
  have Mt : ∀ T : Int, True → T = tBg a b → V l g mX9_begin 1 (Zm g (QE (some (.int (ii (bgM I a b).1))) S (bgM I a b).2 X)) 0 0 26 [some (.ref 508), some (.int (ii a)), some (.int (ii b)), none] [.int (ii T), .ref 508] S I X := by
    intro T _ hTf
    subst hTf
    refine v_puti dX9_begin_26 fr_X9_115 (by assumption) (by decide) rfl ?_
    refine v_aload_n dX9_begin_29 rfl ?_
    refine v_geti dX9_begin_30 fr_X9_115 (by assumption) (by decide) rfl ?_
    rw [up_eq]
    have t01 : tBg a b = 0 ∨ tBg a b = 1 := by unfold tBg; split <;> omega
    refine v_if_le (tgt := 38) dX9_begin_33 (by decide) (fun h33 => ?_) (fun h33 => ?_)
    · refine v_aload_n dX9_begin_38 rfl ?_
      refine v_getr dX9_begin_39 fr_X9_9 (by assumption) (by decide) rfl (by assumption) ?_
      refine v_iconst dX9_begin_42 ?_
      refine v_iald (j := 0) dX9_begin_43 (by assumption) rfl (by omega) ?_
      rw [up_ne (by omega)]
      refine v_istn3 dX9_begin_44 rfl ?_
      refine v_aload_n dX9_begin_45 rfl ?_
      refine v_iload_n dX9_begin_46 rfl ?_
      refine v_cV1n dX9_begin_47 lk_X9_111 (by assumption) (by decide) rfl (k_start hfl hM) (by decide) (Nat.le_of_ble_eq_true rfl) ?_ rfl
      refine v_aload_n dX9_begin_50 rfl ?_
      refine v_getr dX9_begin_51 fr_X9_9 (by assumption) (by decide) rfl (by assumption) ?_
      refine v_bipush dX9_begin_54 (by decide) ?_
      refine v_iload_n dX9_begin_56 rfl ?_
      refine v_iast (j := 6) dX9_begin_57 (by assumption) (by first | rfl | omega) (by omega) ?_
      refine v_iload_n dX9_begin_58 rfl ?_
      exact v_iE dX9_begin_59 rfl (by unfold bgM; rw [if_pos (by omega)]) (by unfold bgM; rw [if_pos (by omega), show tBg a b = 0 by omega])
    · refine v_iconst dX9_begin_36 ?_
      exact v_iE dX9_begin_37 rfl (by unfold bgM; (repeat (first | rw [if_pos (by omega)] | rw [if_neg (by omega)])); first | done | rfl) (by unfold bgM; (repeat (first | rw [if_pos (by omega)] | rw [if_neg (by omega)])); first | done | rfl)
  refine v_startE hfl rfl (by decide) (Nat.le_of_ble_eq_true rfl) (ls := [some (.ref 508), some (.int (ii a)), some (.int (ii b)), none]) rfl ?_
  refine v_aload_n dX9_begin_0 rfl ?_
  refine v_iload_n dX9_begin_1 rfl ?_
  refine v_iconst dX9_begin_2 ?_
  refine v_bipush dX9_begin_3 (by decide) ?_
  refine v_cS3 dX9_begin_5 lk_X9_118 (k_in hfl (by omega) (by omega) (by omega)) (by decide) (Nat.le_of_ble_eq_true rfl) ?_ rfl
  have hi := inF_01 a 2 8
  refine v_if_eq (tgt := 25) dX9_begin_8 (by decide) (fun h8 => ?_) (fun h8 => ?_)
  · refine v_iconst dX9_begin_25 ?_
    exact Mt _ trivial (by unfold tBg; (repeat (first | rw [if_pos (by omega)] | rw [if_neg (by omega)])))
  · refine v_iload_n dX9_begin_11 rfl ?_
    refine v_iconst dX9_begin_12 ?_
    refine v_bipush dX9_begin_13 (by decide) ?_
    refine v_cS3 dX9_begin_15 lk_X9_118 (k_in hfl (by omega) (by omega) (by omega)) (by decide) (Nat.le_of_ble_eq_true rfl) ?_ rfl
    have hi2 := inF_01 b 1 7
    refine v_if_eq (tgt := 25) dX9_begin_18 (by decide) (fun h18 => ?_) (fun h18 => ?_)
    · refine v_iconst dX9_begin_25 ?_
      exact Mt _ trivial (by unfold tBg; (repeat (first | rw [if_pos (by omega)] | rw [if_neg (by omega)])))
    · refine v_iconst dX9_begin_21 ?_
      refine v_goto (tgt := 26) dX9_begin_22 (by decide) ?_
      exact Mt _ trivial (by unfold tBg; (repeat (first | rw [if_pos (by omega)] | rw [if_neg (by omega)])))

theorem pu_s {J : II} {a x : Nat} (h1 : x ≠ 508) (h2 : x ≠ 511) : puM J a x = J x := by
  unfold puM puA
  rw [up_ne h1, up_ne h1, cpy_ne h2]
  split
  · rw [up_ne h1, cpy_ne h2]
  · rfl

set_option maxRecDepth 100000 in
set_option maxHeartbeats 4000000 in
theorem k_set {l : Launch} {g : GV} {S : SS} {I : II} {X : XX} {a b : Int} (hfl : l.stackTraces = false) (hM : isMod S) (hMI : MI I) (hp3 : 0 ≤ I 508 3 ∧ I 508 3 ≤ 8) (ha : -2147483648 ≤ a ∧ a < 2147483648) (hb : -2147483648 ≤ b ∧ b < 2147483648) : CE l g mX9_set 2 [.ref 508, .int (ii a), .int (ii b)] S I X (some (.int (ii (seM I a b).1))) (seM I a b).2 := by
  obtain ⟨m0, ⟨p509, q509⟩, ⟨p510, q510⟩, ⟨p511, q511⟩, ⟨p512, q512⟩, ⟨p513, q513⟩, ⟨p514, q514⟩, ⟨p515, q515⟩, ⟨p516, q516⟩, ⟨p517, q517⟩, ⟨p518, q518⟩, ⟨p519, q519⟩, ⟨p520, q520⟩, ⟨p521, q521⟩, ⟨p522, q522⟩, ⟨p523, q523⟩, ⟨p524, q524⟩, ⟨p525, q525⟩, ⟨p526, q526⟩, ⟨p527, q527⟩, ⟨p528, q528⟩, ⟨p529, q529⟩, ⟨p530, q530⟩, ⟨p531, q531⟩, ⟨p532, q532⟩, ⟨p533, q533⟩, ⟨p534, q534⟩, ⟨p535, q535⟩, ⟨p536, q536⟩, ⟨p537, q537⟩, ⟨p538, q538⟩, ⟨p539, q539⟩, ⟨p540, q540⟩⟩ := id hM
  obtain ⟨w0, w1, w2, w3, w4, w5, w6, w7, w8, w9, w10⟩ := id hMI.1
  have Mt : ∀ (T : Int) (x3 x4 : Option Value), okc x4 = true → T = tSt a b → V l g mX9_set 2 (Zm g (QE (some (.int (ii (seM I a b).1))) S (seM I a b).2 X)) 0 0 57 [some (.ref 508), some (.int (ii a)), some (.int (ii b)), x3, x4, none] [.int (ii T), .ref 508] S I X := by
    intro T x3 x4 hx4 hTf
    subst hTf
    refine v_puti dX9_set_57 fr_X9_115 (by assumption) (by decide) rfl ?_
    refine v_aload_n dX9_set_60 rfl ?_
    refine v_geti dX9_set_61 fr_X9_115 (by assumption) (by decide) rfl ?_
    rw [up_eq]
    have t01 : tSt a b = 0 ∨ tSt a b = 1 := by unfold tSt; split <;> omega
    refine v_if_le (tgt := 69) dX9_set_64 (by decide) (fun h64 => ?_) (fun h64 => ?_)
    · have hab : 0 ≤ a ∧ a ≤ 3 := by
        by_cases hc : inF a 0 3 = 0 ∨ inF b (lsF a) (gsF a) = 0
        · have : tSt a b = 1 := if_pos hc
          omega
        · exact inF_1.mp (fun e => hc (Or.inl e))
      refine v_aload_n dX9_set_69 rfl ?_
      refine v_aload_n dX9_set_70 rfl ?_
      refine v_getr dX9_set_71 fr_X9_9 (by assumption) (by decide) rfl (by assumption) ?_
      refine v_callV (As := [.ref 509]) (Q2 := QE none S (puM (up I 508 6 (tSt a b)) 509) X) dX9_set_74 lk_X9_192 rfl rfl (by assumption) (by decide) rfl (k_push hfl hM (by assumption) (by rw [up_nk (by omega)]; exact hp3)) (by decide) (Nat.le_of_ble_eq_true rfl) (fun _ _ _ _ => qe_no) (fun _ _ _ _ h => qe_ex h) (Nat.zero_add _).symm (Nat.zero_add _).symm (fun u S3 I3 X3 h => ?_)
      obtain ⟨h1, rfl, rfl, rfl⟩ := h
      cases h1
      show V l g mX9_set 2 _ 0 0 77 _ [] _ _ _
      refine v_aload_n dX9_set_77 rfl ?_
      refine v_getr dX9_set_78 fr_X9_9 (by assumption) (by decide) rfl (by assumption) ?_
      refine v_iconst dX9_set_81 ?_
      refine v_iload_n dX9_set_82 rfl ?_
      refine v_iadd dX9_set_83 ?_
      refine v_iald (j := 3 + a.toNat) dX9_set_84 (by assumption) (by omega) (by omega) ?_
      rw [pu_s (by omega) (by omega), up_ne (by omega)]
      refine v_ist5 dX9_set_85 hx4 ?_
      refine v_aload_n dX9_set_87 rfl ?_
      refine v_getr dX9_set_88 fr_X9_9 (by assumption) (by decide) rfl (by assumption) ?_
      refine v_iconst dX9_set_91 ?_
      refine v_iload_n dX9_set_92 rfl ?_
      refine v_iadd dX9_set_93 ?_
      refine v_iload_n dX9_set_94 rfl ?_
      refine v_iast (j := 3 + a.toNat) dX9_set_95 (by assumption) (by omega) (by omega) ?_
      refine v_iload dX9_set_96 rfl ?_
      exact v_iE dX9_set_98 rfl (by unfold seM; rw [if_pos (by omega)]) (by unfold seM; rw [if_pos (by omega), show tSt a b = 0 by omega])
    · refine v_iconst dX9_set_67 ?_
      exact v_iE dX9_set_68 rfl (by unfold seM; (repeat (first | rw [if_pos (by omega)] | rw [if_neg (by omega)])); first | done | rfl) (by unfold seM; (repeat (first | rw [if_pos (by omega)] | rw [if_neg (by omega)])); first | done | rfl)
  have M32 : V l g mX9_set 2 (Zm g (QE (some (.int (ii (seM I a b).1))) S (seM I a b).2 X)) 0 0 32 [some (.ref 508), some (.int (ii a)), some (.int (ii b)), some (.int (ii (lsF a))), some (.int (ii (gsF a))), none] [] S I X := by
    have hl0 := ls_rng a
    have hg0 := gs_rng a
    refine v_aload_n dX9_set_32 rfl ?_
    refine v_iload_n dX9_set_33 rfl ?_
    refine v_iconst dX9_set_34 ?_
    refine v_iconst dX9_set_35 ?_
    refine v_cS3 dX9_set_36 lk_X9_118 (k_in hfl (by omega) (by omega) (by omega)) (by decide) (Nat.le_of_ble_eq_true rfl) ?_ rfl
    have hi := inF_01 a 0 3
    refine v_if_eq (tgt := 56) dX9_set_39 (by decide) (fun h39 => ?_) (fun h39 => ?_)
    · refine v_iconst dX9_set_56 ?_
      exact Mt _ _ _ rfl (by unfold tSt; (repeat (first | rw [if_pos (by omega)] | rw [if_neg (by omega)])))
    · refine v_iload_n dX9_set_42 rfl ?_
      refine v_iload_n dX9_set_43 rfl ?_
      refine v_iload dX9_set_44 rfl ?_
      refine v_cS3 dX9_set_46 lk_X9_118 (k_in hfl (by omega) (by omega) (by omega)) (by decide) (Nat.le_of_ble_eq_true rfl) ?_ rfl
      have hi2 := inF_01 b (lsF a) (gsF a)
      refine v_if_eq (tgt := 56) dX9_set_49 (by decide) (fun h49 => ?_) (fun h49 => ?_)
      · refine v_iconst dX9_set_56 ?_
        exact Mt _ _ _ rfl (by unfold tSt; (repeat (first | rw [if_pos (by omega)] | rw [if_neg (by omega)])))
      · refine v_iconst dX9_set_52 ?_
        refine v_goto (tgt := 57) dX9_set_53 (by decide) ?_
        exact Mt _ _ _ rfl (by unfold tSt; (repeat (first | rw [if_pos (by omega)] | rw [if_neg (by omega)])))
  have M30 : ∀ y : Int, y = gsF a → V l g mX9_set 2 (Zm g (QE (some (.int (ii (seM I a b).1))) S (seM I a b).2 X)) 0 0 30 [some (.ref 508), some (.int (ii a)), some (.int (ii b)), some (.int (ii (lsF a))), none, none] [.int (ii y)] S I X := by
    intro y hy
    subst hy
    refine v_ist4 dX9_set_30 rfl ?_
    exact M32
  have M10 : ∀ y : Int, y = lsF a → V l g mX9_set 2 (Zm g (QE (some (.int (ii (seM I a b).1))) S (seM I a b).2 X)) 0 0 10 [some (.ref 508), some (.int (ii a)), some (.int (ii b)), none, none, none] [.int (ii y)] S I X := by
    intro y hy
    subst hy
    refine v_istn3 dX9_set_10 rfl ?_
    refine v_iload_n dX9_set_11 rfl ?_
    refine v_if_ne (tgt := 19) dX9_set_12 (by decide) (fun h12 => ?_) (fun h12 => ?_)
    · refine v_iload_n dX9_set_19 rfl ?_
      refine v_iconst dX9_set_20 ?_
      refine v_ic_ne (tgt := 29) dX9_set_21 (by decide) (fun h21 => ?_) (fun h21 => ?_)
      · refine v_iconst dX9_set_29 ?_
        exact M30 _ (by unfold gsF; (repeat (first | rw [if_pos (by omega)] | rw [if_neg (by omega)])))
      · refine v_bipush dX9_set_24 (by decide) ?_
        refine v_goto (tgt := 30) dX9_set_26 (by decide) ?_
        exact M30 _ (by unfold gsF; (repeat (first | rw [if_pos (by omega)] | rw [if_neg (by omega)])))
    · refine v_iconst dX9_set_15 ?_
      refine v_goto (tgt := 30) dX9_set_16 (by decide) ?_
      exact M30 _ (by unfold gsF; (repeat (first | rw [if_pos (by omega)] | rw [if_neg (by omega)])))
  refine v_startE hfl rfl (by decide) (Nat.le_of_ble_eq_true rfl) (ls := [some (.ref 508), some (.int (ii a)), some (.int (ii b)), none, none, none]) rfl ?_
  refine v_iload_n dX9_set_0 rfl ?_
  refine v_iconst dX9_set_1 ?_
  refine v_ic_ne (tgt := 9) dX9_set_2 (by decide) (fun h2 => ?_) (fun h2 => ?_)
  · refine v_iconst dX9_set_9 ?_
    exact M10 _ (by unfold lsF; (repeat (first | rw [if_pos (by omega)] | rw [if_neg (by omega)])))
  · refine v_iconst dX9_set_5 ?_
    refine v_goto (tgt := 10) dX9_set_6 (by decide) ?_
    exact M10 _ (by unfold lsF; (repeat (first | rw [if_pos (by omega)] | rw [if_neg (by omega)])))

set_option maxRecDepth 100000 in
set_option maxHeartbeats 4000000 in
theorem k_withdraw {l : Launch} {g : GV} {S : SS} {I : II} {X : XX} {c : Int} (hfl : l.stackTraces = false) (hM : isMod S) (hMI : MI I) (hp3 : 0 ≤ I 508 3 ∧ I 508 3 ≤ 8) (hc : -2147483648 ≤ c ∧ c < 2147483648) : CE l g mX9_withdraw 2 [.ref 508, .int (ii c)] S I X (some (.int (ii (wdM I c).1))) (wdM I c).2 := by
  obtain ⟨m0, ⟨p509, q509⟩, ⟨p510, q510⟩, ⟨p511, q511⟩, ⟨p512, q512⟩, ⟨p513, q513⟩, ⟨p514, q514⟩, ⟨p515, q515⟩, ⟨p516, q516⟩, ⟨p517, q517⟩, ⟨p518, q518⟩, ⟨p519, q519⟩, ⟨p520, q520⟩, ⟨p521, q521⟩, ⟨p522, q522⟩, ⟨p523, q523⟩, ⟨p524, q524⟩, ⟨p525, q525⟩, ⟨p526, q526⟩, ⟨p527, q527⟩, ⟨p528, q528⟩, ⟨p529, q529⟩, ⟨p530, q530⟩, ⟨p531, q531⟩, ⟨p532, q532⟩, ⟨p533, q533⟩, ⟨p534, q534⟩, ⟨p535, q535⟩, ⟨p536, q536⟩, ⟨p537, q537⟩, ⟨p538, q538⟩, ⟨p539, q539⟩, ⟨p540, q540⟩⟩ := id hM
  obtain ⟨w0, w1, w2, w3, w4, w5, w6, w7, w8, w9, w10⟩ := id hMI.1
  have Mt : ∀ T : Int, True → T = tWd I c → V l g mX9_withdraw 2 (Zm g (QE (some (.int (ii (wdM I c).1))) S (wdM I c).2 X)) 0 0 14 [some (.ref 508), some (.int (ii c))] [.int (ii T), .ref 508] S I X := by
    intro T _ hTf
    subst hTf
    refine v_puti dX9_withdraw_14 fr_X9_115 (by assumption) (by decide) rfl ?_
    refine v_aload_n dX9_withdraw_17 rfl ?_
    refine v_geti dX9_withdraw_18 fr_X9_115 (by assumption) (by decide) rfl ?_
    rw [up_eq]
    have t01 : tWd I c = 0 ∨ tWd I c = 1 := by unfold tWd; split <;> omega
    refine v_if_le (tgt := 26) dX9_withdraw_21 (by decide) (fun h21 => ?_) (fun h21 => ?_)
    · have hab : 0 ≤ c ∧ c ≤ I 509 0 - 1 := by
        by_cases hc : inF c 0 (I 509 0 - 1) = 0
        · have : tWd I c = 1 := if_pos hc
          omega
        · exact inF_1.mp hc
      obtain ⟨q, rfl⟩ := Int.eq_ofNat_of_zero_le hab.1
      obtain ⟨u, hu⟩ := Int.eq_ofNat_of_zero_le w2.1
      have hq8 : q < 8 := by omega
      have hu8 : u < 256 := by omega
      refine v_aload_n dX9_withdraw_26 rfl ?_
      refine v_aload_n dX9_withdraw_27 rfl ?_
      refine v_getr dX9_withdraw_28 fr_X9_9 (by assumption) (by decide) rfl (by assumption) ?_
      refine v_callV (As := [.ref 509]) (Q2 := QE none S (puM (up I 508 6 (tWd I (q : Int))) 509) X) dX9_withdraw_31 lk_X9_192 rfl rfl (by assumption) (by decide) rfl (k_push hfl hM (by assumption) (by rw [up_nk (by omega)]; exact hp3)) (by decide) (Nat.le_of_ble_eq_true rfl) (fun _ _ _ _ => qe_no) (fun _ _ _ _ h => qe_ex h) (Nat.zero_add _).symm (Nat.zero_add _).symm (fun u S3 I3 X3 h => ?_)
      obtain ⟨h1, rfl, rfl, rfl⟩ := h
      cases h1
      show V l g mX9_withdraw 2 _ 0 0 34 _ [] _ _ _
      refine v_aload_n dX9_withdraw_34 rfl ?_
      refine v_getr dX9_withdraw_35 fr_X9_9 (by assumption) (by decide) rfl (by assumption) ?_
      refine v_iconst dX9_withdraw_38 ?_
      refine v_dup2 dX9_withdraw_39 rfl rfl ?_
      refine v_iald (j := 2) dX9_withdraw_40 (by assumption) rfl (by omega) ?_
      rw [pu_s (by omega) (by omega), up_ne (by omega), hu]
      refine v_iconst dX9_withdraw_41 ?_
      refine v_iload_n dX9_withdraw_42 rfl ?_
      refine v_ishl (z := ((2 ^ q : Nat) : Int)) dX9_withdraw_43 (shl_b q hq8) ?_
      refine v_ixor (z := ((xr u q : Nat) : Int)) dX9_withdraw_44 (xr_b _ hu8 q hq8) ?_
      refine v_iast (j := 2) dX9_withdraw_45 (by assumption) rfl (by omega) ?_
      have hx8 := xr_lt u hu8 q hq8
      have hW9 : WfM (up (puM (up I 508 6 (tWd I (q : Int))) 509) 509 2 (xr u q : Nat)) := WfM_s (WfM_of hMI.1 (by rw [pu_s (by omega) (by omega), up_ne (by omega)])) (fun e => by omega) (fun e => by omega) (fun _ => by omega) (fun q hq e => by omega) (fun q hq e => by omega) (fun q k hq hk e => by omega) (fun k hk e => by omega) (fun e => by omega) (fun e => by omega) (fun e => by omega) (fun e => by omega)
      refine v_aload_n dX9_withdraw_46 rfl ?_
      refine v_iload_n dX9_withdraw_47 rfl ?_
      refine v_cV1 dX9_withdraw_48 lk_X9_196 (by assumption) (by decide) rfl (k_isGone hfl hM hW9 (by omega)) (by decide) (Nat.le_of_ble_eq_true rfl) ?_ rfl
      have h9 := btI_01 (xr u q) q
      rw [show (up (puM (up I 508 6 (tWd I (q : Int))) 509) 509 2 (xr u q : Nat) 509 2).toNat = xr u q by rw [up_eq]; rfl]
      exact v_zE dX9_withdraw_51 rfl (by first | exact Or.inl rfl | exact Or.inr rfl | omega) (by unfold wdM; rw [if_pos (by omega), hu]; rfl) (by unfold wdM; rw [if_pos (by omega), hu, show tWd I (q : Int) = 0 by omega]; rfl)
    · refine v_iconst dX9_withdraw_24 ?_
      exact v_zE dX9_withdraw_25 rfl (by first | exact Or.inl rfl | exact Or.inr rfl | omega) (by unfold wdM; (repeat (first | rw [if_pos (by omega)] | rw [if_neg (by omega)])); first | done | rfl) (by unfold wdM; (repeat (first | rw [if_pos (by omega)] | rw [if_neg (by omega)])); first | done | rfl)
  refine v_startE hfl rfl (by decide) (Nat.le_of_ble_eq_true rfl) (ls := [some (.ref 508), some (.int (ii c))]) rfl ?_
  refine v_aload_n dX9_withdraw_0 rfl ?_
  refine v_aload_n dX9_withdraw_1 rfl ?_
  refine v_iload_n dX9_withdraw_2 rfl ?_
  refine v_cV1 dX9_withdraw_3 lk_X9_168 (by assumption) (by decide) rfl (k_isCand hfl hM hMI.1 (by omega)) (by decide) (Nat.le_of_ble_eq_true rfl) ?_ rfl
  have hi := inF_01 c 0 (I 509 0 - 1)
  refine v_if_eq (tgt := 13) dX9_withdraw_6 (by decide) (fun h6 => ?_) (fun h6 => ?_)
  · refine v_iconst dX9_withdraw_13 ?_
    exact Mt _ trivial (by unfold tWd; (repeat (first | rw [if_pos (by omega)] | rw [if_neg (by omega)])))
  · refine v_iconst dX9_withdraw_9 ?_
    refine v_goto (tgt := 14) dX9_withdraw_10 (by decide) ?_
    exact Mt _ trivial (by unfold tWd; (repeat (first | rw [if_pos (by omega)] | rw [if_neg (by omega)])))

set_option maxRecDepth 100000 in
set_option maxHeartbeats 4000000 in
theorem k_pile {l : Launch} {g : GV} {S : SS} {I : II} {X : XX} {z w : Int} (hfl : l.stackTraces = false) (hM : isMod S) (hMI : MI I) (hz : -2147483648 ≤ z ∧ z < 2147483648) (hw : -2147483648 ≤ w ∧ w < 2147483648) : CE l g mX9_pile 2 [.ref 508, .int (ii z), .int (ii w)] S I X (some (.int (ii (plM I z w).1))) (plM I z w).2 := by
  obtain ⟨m0, ⟨p509, q509⟩, ⟨p510, q510⟩, ⟨p511, q511⟩, ⟨p512, q512⟩, ⟨p513, q513⟩, ⟨p514, q514⟩, ⟨p515, q515⟩, ⟨p516, q516⟩, ⟨p517, q517⟩, ⟨p518, q518⟩, ⟨p519, q519⟩, ⟨p520, q520⟩, ⟨p521, q521⟩, ⟨p522, q522⟩, ⟨p523, q523⟩, ⟨p524, q524⟩, ⟨p525, q525⟩, ⟨p526, q526⟩, ⟨p527, q527⟩, ⟨p528, q528⟩, ⟨p529, q529⟩, ⟨p530, q530⟩, ⟨p531, q531⟩, ⟨p532, q532⟩, ⟨p533, q533⟩, ⟨p534, q534⟩, ⟨p535, q535⟩, ⟨p536, q536⟩, ⟨p537, q537⟩, ⟨p538, q538⟩, ⟨p539, q539⟩, ⟨p540, q540⟩⟩ := id hM
  obtain ⟨w0, w1, w2, w3, w4, w5, w6, w7, w8, w9, w10⟩ := id hMI.1
  have Mt : ∀ T : Int, True → T = tPl I z w → V l g mX9_pile 2 (Zm g (QE (some (.int (ii (plM I z w).1))) S (plM I z w).2 X)) 0 0 45 [some (.ref 508), some (.int (ii z)), some (.int (ii w))] [.int (ii T), .ref 508] S I X := by
    intro T _ hTf
    subst hTf
    refine v_puti dX9_pile_45 fr_X9_115 (by assumption) (by decide) rfl ?_
    refine v_aload_n dX9_pile_48 rfl ?_
    refine v_geti dX9_pile_49 fr_X9_115 (by assumption) (by decide) rfl ?_
    rw [up_eq]
    have t01 : tPl I z w = 0 ∨ tPl I z w = 1 ∨ tPl I z w = 2 := by unfold tPl; split <;> (try split) <;> omega
    refine v_if_le (tgt := 57) dX9_pile_52 (by decide) (fun h52 => ?_) (fun h52 => ?_)
    · have hab : 0 ≤ z ∧ z ≤ I 509 1 - 1 := by
        by_cases hc : inF z 0 (I 509 1 - 1) = 0
        · have : tPl I z w = 1 := if_pos hc
          omega
        · exact inF_1.mp hc
      obtain ⟨p, rfl⟩ := Int.eq_ofNat_of_zero_le hab.1
      have hp : p < 25 := by omega
      have hln : mLn I p = mLn I ((p : Nat) : Int).toNat := rfl
      have w4p := w4 p hp
      have hwk : ¬ (inF w 0 1 = 0 ∧ (w < 10 ∨ mLn I ((p : Nat) : Int).toNat ≤ w - 10)) := fun hc => by
        have : tPl I (p : Int) w = 2 := by unfold tPl; rw [if_neg (inF_1.mpr hab), if_pos hc]
        omega
      have hi := inF_01 w 0 1
      have hi1 := @inF_1 w 0 1
      refine v_iload_n dX9_pile_57 rfl ?_
      refine v_if_ne (tgt := 69) dX9_pile_58 (by decide) (fun h58 => ?_) (fun h58 => ?_)
      · refine v_iload_n dX9_pile_69 rfl ?_
        refine v_iconst dX9_pile_70 ?_
        refine v_ic_ne (tgt := 82) dX9_pile_71 (by decide) (fun h71 => ?_) (fun h71 => ?_)
        · refine v_aload_n dX9_pile_82 rfl ?_
          refine v_iload_n dX9_pile_83 rfl ?_
          refine v_iload_n dX9_pile_84 rfl ?_
          refine v_bipush dX9_pile_85 (by decide) ?_
          refine v_isub dX9_pile_87 ?_
          obtain ⟨k, hk⟩ := Int.eq_ofNat_of_zero_le (show 0 ≤ w - 10 by omega)
          rw [hk]
          refine v_cV2 dX9_pile_88 lk_X9_206 (by assumption) (by decide) rfl (k_rankOf hfl hM hp (by omega)) (by decide) (Nat.le_of_ble_eq_true rfl) ?_ rfl
          first
            | exact v_iE dX9_pile_91 rfl (by unfold plM; rw [if_pos (by omega), if_pos (by omega)]; unfold mSz; rw [up_ne (by omega)]; rfl) (by unfold plM; rw [if_pos (by omega), show tPl I (p : Int) w = 0 by omega])
            | exact v_iE dX9_pile_91 rfl (by unfold plM; rw [if_pos (by omega), if_neg (by omega), if_pos (by omega)]; unfold mLn; rw [up_ne (by omega)]; rfl) (by unfold plM; rw [if_pos (by omega), show tPl I (p : Int) w = 0 by omega])
            | exact v_iE dX9_pile_91 rfl (by unfold plM; rw [if_pos (by omega), if_neg (by omega), if_neg (by omega), hk]; unfold mRk; rw [up_ne (by omega)]; rfl) (by unfold plM; rw [if_pos (by omega), show tPl I (p : Int) w = 0 by omega])
        · refine v_aload_n dX9_pile_74 rfl ?_
          refine v_iload_n dX9_pile_75 rfl ?_
          refine v_cV1 dX9_pile_76 lk_X9_199 (by assumption) (by decide) rfl (k_lengthOf hfl hM hp) (by decide) (Nat.le_of_ble_eq_true rfl) ?_ rfl
          refine v_goto (tgt := 91) dX9_pile_79 (by decide) ?_
          first
            | exact v_iE dX9_pile_91 rfl (by unfold plM; rw [if_pos (by omega), if_pos (by omega)]; unfold mSz; rw [up_ne (by omega)]; rfl) (by unfold plM; rw [if_pos (by omega), show tPl I (p : Int) w = 0 by omega])
            | exact v_iE dX9_pile_91 rfl (by unfold plM; rw [if_pos (by omega), if_neg (by omega), if_pos (by omega)]; unfold mLn; rw [up_ne (by omega)]; rfl) (by unfold plM; rw [if_pos (by omega), show tPl I (p : Int) w = 0 by omega])
            | exact v_iE dX9_pile_91 rfl (by unfold plM; rw [if_pos (by omega), if_neg (by omega), if_neg (by omega), hk]; unfold mRk; rw [up_ne (by omega)]; rfl) (by unfold plM; rw [if_pos (by omega), show tPl I (p : Int) w = 0 by omega])
      · refine v_aload_n dX9_pile_61 rfl ?_
        refine v_iload_n dX9_pile_62 rfl ?_
        refine v_cV1 dX9_pile_63 lk_X9_203 (by assumption) (by decide) rfl (k_sizeOf hfl hM hp) (by decide) (Nat.le_of_ble_eq_true rfl) ?_ rfl
        refine v_goto (tgt := 91) dX9_pile_66 (by decide) ?_
        first
          | exact v_iE dX9_pile_91 rfl (by unfold plM; rw [if_pos (by omega), if_pos (by omega)]; unfold mSz; rw [up_ne (by omega)]; rfl) (by unfold plM; rw [if_pos (by omega), show tPl I (p : Int) w = 0 by omega])
          | exact v_iE dX9_pile_91 rfl (by unfold plM; rw [if_pos (by omega), if_neg (by omega), if_pos (by omega)]; unfold mLn; rw [up_ne (by omega)]; rfl) (by unfold plM; rw [if_pos (by omega), show tPl I (p : Int) w = 0 by omega])
          | exact v_iE dX9_pile_91 rfl (by unfold plM; rw [if_pos (by omega), if_neg (by omega), if_neg (by omega), hk]; unfold mRk; rw [up_ne (by omega)]; rfl) (by unfold plM; rw [if_pos (by omega), show tPl I (p : Int) w = 0 by omega])
    · refine v_iconst dX9_pile_55 ?_
      exact v_iE dX9_pile_56 rfl (by unfold plM; (repeat (first | rw [if_pos (by omega)] | rw [if_neg (by omega)])); first | done | rfl) (by unfold plM; (repeat (first | rw [if_pos (by omega)] | rw [if_neg (by omega)])); first | done | rfl)
  refine v_startE hfl rfl (by decide) (Nat.le_of_ble_eq_true rfl) (ls := [some (.ref 508), some (.int (ii z)), some (.int (ii w))]) rfl ?_
  refine v_aload_n dX9_pile_0 rfl ?_
  refine v_aload_n dX9_pile_1 rfl ?_
  refine v_iload_n dX9_pile_2 rfl ?_
  refine v_cV1 dX9_pile_3 lk_X9_161 (by assumption) (by decide) rfl (k_isPile hfl hM hMI.1 (by omega)) (by decide) (Nat.le_of_ble_eq_true rfl) ?_ rfl
  have hj := inF_01 z 0 (I 509 1 - 1)
  have hj1 := @inF_1 z 0 (I 509 1 - 1)
  refine v_if_ne (tgt := 13) dX9_pile_6 (by decide) (fun h6 => ?_) (fun h6 => ?_)
  · refine v_iload_n dX9_pile_13 rfl ?_
    refine v_iconst dX9_pile_14 ?_
    refine v_iconst dX9_pile_15 ?_
    refine v_cS3 dX9_pile_16 lk_X9_118 (k_in hfl (by omega) (by omega) (by omega)) (by decide) (Nat.le_of_ble_eq_true rfl) ?_ rfl
    have hi := inF_01 w 0 1
    have hi1 := @inF_1 w 0 1
    refine v_if_ne (tgt := 40) dX9_pile_19 (by decide) (fun h19 => ?_) (fun h19 => ?_)
    · refine v_iconst dX9_pile_40 ?_
      refine v_goto (tgt := 45) dX9_pile_41 (by decide) ?_
      exact Mt _ trivial (by unfold tPl; (repeat (first | rw [if_pos (by omega)] | rw [if_neg (by omega)])))
    · refine v_iload_n dX9_pile_22 rfl ?_
      refine v_bipush dX9_pile_23 (by decide) ?_
      refine v_ic_lt (tgt := 44) dX9_pile_25 (by decide) (fun h25 => ?_) (fun h25 => ?_)
      · refine v_iconst dX9_pile_44 ?_
        exact Mt _ trivial (by unfold tPl; (repeat (first | rw [if_pos (by omega)] | rw [if_neg (by omega)])))
      · obtain ⟨p, rfl⟩ := Int.eq_ofNat_of_zero_le (show 0 ≤ z by omega)
        have hp : p < 25 := by omega
        have hln : mLn I p = mLn I ((p : Nat) : Int).toNat := rfl
        have w4p := w4 p hp
        refine v_iload_n dX9_pile_28 rfl ?_
        refine v_bipush dX9_pile_29 (by decide) ?_
        refine v_isub dX9_pile_31 ?_
        refine v_aload_n dX9_pile_32 rfl ?_
        refine v_iload_n dX9_pile_33 rfl ?_
        refine v_cV1 dX9_pile_34 lk_X9_199 (by assumption) (by decide) rfl (k_lengthOf hfl hM hp) (by decide) (Nat.le_of_ble_eq_true rfl) ?_ rfl
        refine v_ic_ge (tgt := 44) dX9_pile_37 (by decide) (fun h37 => ?_) (fun h37 => ?_)
        · refine v_iconst dX9_pile_44 ?_
          exact Mt _ trivial (by unfold tPl; (repeat (first | rw [if_pos (by omega)] | rw [if_neg (by omega)])))
        · refine v_iconst dX9_pile_40 ?_
          refine v_goto (tgt := 45) dX9_pile_41 (by decide) ?_
          exact Mt _ trivial (by unfold tPl; (repeat (first | rw [if_pos (by omega)] | rw [if_neg (by omega)])))
  · refine v_iconst dX9_pile_9 ?_
    refine v_goto (tgt := 45) dX9_pile_10 (by decide) ?_
    exact Mt _ trivial (by unfold tPl; (repeat (first | rw [if_pos (by omega)] | rw [if_neg (by omega)])))

set_option maxRecDepth 100000 in
set_option maxHeartbeats 4000000 in
theorem k_character {l : Launch} {g : GV} {S : SS} {I : II} {X : XX} {z x : Int} (hfl : l.stackTraces = false) (hM : isMod S) (hMI : MI I) (hz : -2147483648 ≤ z ∧ z < 2147483648) (hx : -2147483648 ≤ x ∧ x < 2147483648) : CE l g mX9_character 2 [.ref 508, .int (ii z), .int (ii x)] S I X (some (.int (ii (chM9 I z x).1))) (chM9 I z x).2 := by
  obtain ⟨m0, ⟨p509, q509⟩, ⟨p510, q510⟩, ⟨p511, q511⟩, ⟨p512, q512⟩, ⟨p513, q513⟩, ⟨p514, q514⟩, ⟨p515, q515⟩, ⟨p516, q516⟩, ⟨p517, q517⟩, ⟨p518, q518⟩, ⟨p519, q519⟩, ⟨p520, q520⟩, ⟨p521, q521⟩, ⟨p522, q522⟩, ⟨p523, q523⟩, ⟨p524, q524⟩, ⟨p525, q525⟩, ⟨p526, q526⟩, ⟨p527, q527⟩, ⟨p528, q528⟩, ⟨p529, q529⟩, ⟨p530, q530⟩, ⟨p531, q531⟩, ⟨p532, q532⟩, ⟨p533, q533⟩, ⟨p534, q534⟩, ⟨p535, q535⟩, ⟨p536, q536⟩, ⟨p537, q537⟩, ⟨p538, q538⟩, ⟨p539, q539⟩, ⟨p540, q540⟩⟩ := id hM
  obtain ⟨w0, w1, w2, w3, w4, w5, w6, w7, w8, w9, w10⟩ := id hMI.1
  have M91 : ∀ T : Int, T = tCh I z x → V l g mX9_character 2 (Zm g (QE (some (.int (ii (chM9 I z x).1))) S (chM9 I z x).2 X)) 0 0 91 [some (.ref 508), some (.int (ii z)), some (.int (ii x)), some (.int (ii (dg1 I z))), some (.int (ii (al1 I z)))] [.int (ii T), .ref 508] S (up I 508 6 (t1C I z)) X := by
    intro T hTf
    subst hTf
    refine v_puti dX9_character_91 fr_X9_115 (by assumption) (by decide) rfl ?_
    refine v_aload_n dX9_character_94 rfl ?_
    refine v_geti dX9_character_95 fr_X9_115 (by assumption) (by decide) rfl ?_
    rw [up_eq]
    have t01 : tCh I z x = 0 ∨ tCh I z x = 1 := by unfold tCh; split <;> omega
    have t02 : t1C I z = 0 ∨ t1C I z = 1 := by unfold t1C; split <;> omega
    refine v_if_le (tgt := 103) dX9_character_98 (by decide) (fun h98 => ?_) (fun h98 => ?_)
    · have hT1 : ¬ (0 < t1C I z ∨ inF x (-1) (al1 I z - 1) = 0) := fun hc => by
        have : tCh I z x = 1 := if_pos hc
        omega
      have hx9 := inF_1.mp (fun e => hT1 (Or.inr e))
      have hab : 0 ≤ z ∧ z ≤ I 509 1 - 1 := by
        by_cases hc : inF z 0 (I 509 1 - 1) = 0
        · have : t1C I z = 1 := if_pos hc
          omega
        · exact inF_1.mp hc
      obtain ⟨p, rfl⟩ := Int.eq_ofNat_of_zero_le hab.1
      have hp : p < 25 := by omega
      have w4p := w4 p hp
      have w3p := w3 p hp
      have hzn : ((p : Nat) : Int).toNat = p := rfl
      have hd1 : dg1 I (p : Int) = dgM I p := by unfold dg1; rw [if_pos (by omega)]; rfl
      have ha1 : al1 I (p : Int) = dgM I p + mLn I p + 2 := by unfold al1; rw [if_pos (by omega)]; rfl
      have hdg : dgM I p = 1 ∨ dgM I p = 2 := by unfold dgM; split <;> omega
      have hs6 : mSz (up (up I 508 6 (t1C I (p : Int))) 508 6 (tCh I (p : Int) x)) p = mSz I p := by unfold mSz; rw [up_ne (by omega), up_ne (by omega)]
      have hr6 : ∀ k, mRk (up (up I 508 6 (t1C I (p : Int))) 508 6 (tCh I (p : Int) x)) p k = mRk I p k := fun k => by unfold mRk; rw [up_ne (by omega), up_ne (by omega)]
      refine v_iload_n dX9_character_103 rfl ?_
      refine v_if_ge (tgt := 110) dX9_character_104 (by decide) (fun h104 => ?_) (fun h104 => ?_)
      · refine v_iload_n dX9_character_110 rfl ?_
        refine v_iload_n dX9_character_111 rfl ?_
        refine v_ic_ge (tgt := 145) dX9_character_112 (by decide) (fun h112 => ?_) (fun h112 => ?_)
        · refine v_iload_n dX9_character_145 rfl ?_
          refine v_iload_n dX9_character_146 rfl ?_
          refine v_ic_ne (tgt := 155) dX9_character_147 (by decide) (fun h147 => ?_) (fun h147 => ?_)
          · refine v_iload_n dX9_character_155 rfl ?_
            refine v_iload dX9_character_156 rfl ?_
            refine v_iconst dX9_character_158 ?_
            refine v_isub dX9_character_159 ?_
            refine v_ic_ne (tgt := 168) dX9_character_160 (by decide) (fun h160 => ?_) (fun h160 => ?_)
            · refine v_bipush dX9_character_168 (by decide) ?_
              refine v_aload_n dX9_character_170 rfl ?_
              refine v_iload_n dX9_character_171 rfl ?_
              refine v_iload_n dX9_character_172 rfl ?_
              refine v_iload_n dX9_character_173 rfl ?_
              refine v_isub dX9_character_174 ?_
              refine v_iconst dX9_character_175 ?_
              refine v_isub dX9_character_176 ?_
              obtain ⟨k, hk⟩ := Int.eq_ofNat_of_zero_le (show 0 ≤ x - dg1 I (p : Int) - 1 by omega)
              rw [hk]
              refine v_cV2 dX9_character_177 lk_X9_206 (by assumption) (by decide) rfl (k_rankOf hfl hM hp (by omega)) (by decide) (Nat.le_of_ble_eq_true rfl) ?_ rfl
              rw [hr6 k]
              refine v_iadd dX9_character_180 ?_
              exact v_iE dX9_character_181 rfl (by unfold chM9; rw [if_pos (by omega), if_neg (by omega)]; show _ = sgM I p x; unfold sgM; (repeat (first | rw [if_pos (by omega)] | rw [if_neg (by omega)])); first | done | (rw [show x - dgM I p - 1 = (k : Int) by omega]; rfl)) (rfl)
            · refine v_bipush dX9_character_163 (by decide) ?_
              refine v_goto (tgt := 181) dX9_character_165 (by decide) ?_
              exact v_iE dX9_character_181 rfl (by unfold chM9; rw [if_pos (by omega), if_neg (by omega)]; show _ = sgM I p x; unfold sgM; (repeat (first | rw [if_pos (by omega)] | rw [if_neg (by omega)])); first | done | (rw [show x - dgM I p - 1 = (k : Int) by omega]; rfl)) (rfl)
          · refine v_bipush dX9_character_150 (by decide) ?_
            refine v_goto (tgt := 181) dX9_character_152 (by decide) ?_
            exact v_iE dX9_character_181 rfl (by unfold chM9; rw [if_pos (by omega), if_neg (by omega)]; show _ = sgM I p x; unfold sgM; (repeat (first | rw [if_pos (by omega)] | rw [if_neg (by omega)])); first | done | (rw [show x - dgM I p - 1 = (k : Int) by omega]; rfl)) (rfl)
        · refine v_bipush dX9_character_115 (by decide) ?_
          refine v_iload_n dX9_character_117 rfl ?_
          refine v_iconst dX9_character_118 ?_
          refine v_iadd dX9_character_119 ?_
          refine v_iload_n dX9_character_120 rfl ?_
          refine v_ic_ne (tgt := 135) dX9_character_121 (by decide) (fun h121 => ?_) (fun h121 => ?_)
          · refine v_aload_n dX9_character_135 rfl ?_
            refine v_iload_n dX9_character_136 rfl ?_
            refine v_cV1 dX9_character_137 lk_X9_203 (by assumption) (by decide) rfl (k_sizeOf hfl hM hp) (by decide) (Nat.le_of_ble_eq_true rfl) ?_ rfl
            rw [hs6]
            refine v_bipush dX9_character_140 (by decide) ?_
            refine v_idiv dX9_character_142 (ii_ne0 (by omega) (by omega)) (dvI_ii _ _) ?_
            refine v_iadd dX9_character_143 ?_
            exact v_iE dX9_character_144 rfl (by unfold chM9; rw [if_pos (by omega), if_neg (by omega)]; show _ = sgM I p x; unfold sgM; (repeat (first | rw [if_pos (by omega)] | rw [if_neg (by omega)]))) (rfl)
          · refine v_aload_n dX9_character_124 rfl ?_
            refine v_iload_n dX9_character_125 rfl ?_
            refine v_cV1 dX9_character_126 lk_X9_203 (by assumption) (by decide) rfl (k_sizeOf hfl hM hp) (by decide) (Nat.le_of_ble_eq_true rfl) ?_ rfl
            rw [hs6]
            refine v_bipush dX9_character_129 (by decide) ?_
            refine v_irem (z := mSz I p - dvI (mSz I p) 10 * 10) dX9_character_131 (ii_ne0 (by omega) (by omega)) (by rw [dvI_ii, ← ii_mul, ← ii_sub]) ?_
            refine v_goto (tgt := 143) dX9_character_132 (by decide) ?_
            refine v_iadd dX9_character_143 ?_
            exact v_iE dX9_character_144 rfl (by unfold chM9; rw [if_pos (by omega), if_neg (by omega)]; show _ = sgM I p x; unfold sgM; (repeat (first | rw [if_pos (by omega)] | rw [if_neg (by omega)]))) (rfl)
      · refine v_iload dX9_character_107 rfl ?_
        exact v_iE dX9_character_109 rfl (by unfold chM9; rw [if_pos (by omega), if_pos (by omega)]) (rfl)
    · refine v_iconst dX9_character_101 ?_
      exact v_iE dX9_character_102 rfl (by unfold chM9; rw [if_neg (by omega)]) (rfl)
  have M64 : ∀ y : Int, y = al1 I z → V l g mX9_character 2 (Zm g (QE (some (.int (ii (chM9 I z x).1))) S (chM9 I z x).2 X)) 0 0 64 [some (.ref 508), some (.int (ii z)), some (.int (ii x)), some (.int (ii (dg1 I z))), none] [.int (ii y)] S (up I 508 6 (t1C I z)) X := by
    intro y hy
    subst hy
    refine v_ist4 dX9_character_64 rfl ?_
    refine v_aload_n dX9_character_66 rfl ?_
    refine v_aload_n dX9_character_67 rfl ?_
    refine v_geti dX9_character_68 fr_X9_115 (by assumption) (by decide) rfl ?_
    rw [up_eq]
    have t02 : t1C I z = 0 ∨ t1C I z = 1 := by unfold t1C; split <;> omega
    refine v_if_gt (tgt := 86) dX9_character_71 (by decide) (fun h71 => ?_) (fun h71 => ?_)
    · refine v_iconst dX9_character_86 ?_
      refine v_goto (tgt := 91) dX9_character_87 (by decide) ?_
      exact M91 _ (by unfold tCh; (repeat (first | rw [if_pos (by omega)] | rw [if_neg (by omega)])))
    · refine v_iload_n dX9_character_74 rfl ?_
      refine v_iconst dX9_character_75 ?_
      have ha9 : -2 ≤ al1 I z ∧ al1 I z ≤ 100 := by
        have hab : 0 ≤ z ∧ z ≤ I 509 1 - 1 := by
          by_cases hc : inF z 0 (I 509 1 - 1) = 0
          · have : t1C I z = 1 := if_pos hc
            omega
          · exact inF_1.mp hc
        obtain ⟨p, rfl⟩ := Int.eq_ofNat_of_zero_le hab.1
        have hp : p < 25 := by omega
        have w4p := w4 p hp
        have w3p := w3 p hp
        have hzn : ((p : Nat) : Int).toNat = p := rfl
        have hdg : dgM I p = 1 ∨ dgM I p = 2 := by unfold dgM; split <;> omega
        have ha1 : al1 I (p : Int) = dgM I p + mLn I p + 2 := by unfold al1; rw [if_pos (by omega)]; rfl
        omega
      refine v_iload dX9_character_76 rfl ?_
      refine v_iconst dX9_character_78 ?_
      refine v_isub dX9_character_79 ?_
      refine v_cS3 dX9_character_80 lk_X9_118 (k_in hfl (by omega) (by omega) (by omega)) (by decide) (Nat.le_of_ble_eq_true rfl) ?_ rfl
      have hi := inF_01 x (-1) (al1 I z - 1)
      refine v_if_ne (tgt := 90) dX9_character_83 (by decide) (fun h83 => ?_) (fun h83 => ?_)
      · refine v_iconst dX9_character_90 ?_
        exact M91 _ (by unfold tCh; (repeat (first | rw [if_pos (by omega)] | rw [if_neg (by omega)])))
      · refine v_iconst dX9_character_86 ?_
        refine v_goto (tgt := 91) dX9_character_87 (by decide) ?_
        exact M91 _ (by unfold tCh; (repeat (first | rw [if_pos (by omega)] | rw [if_neg (by omega)])))
  have M43 : ∀ y : Int, y = dg1 I z → V l g mX9_character 2 (Zm g (QE (some (.int (ii (chM9 I z x).1))) S (chM9 I z x).2 X)) 0 0 43 [some (.ref 508), some (.int (ii z)), some (.int (ii x)), none, none] [.int (ii y)] S (up I 508 6 (t1C I z)) X := by
    intro y hy
    subst hy
    refine v_istn3 dX9_character_43 rfl ?_
    refine v_aload_n dX9_character_44 rfl ?_
    refine v_geti dX9_character_45 fr_X9_115 (by assumption) (by decide) rfl ?_
    rw [up_eq]
    have t02 : t1C I z = 0 ∨ t1C I z = 1 := by unfold t1C; split <;> omega
    refine v_if_le (tgt := 55) dX9_character_48 (by decide) (fun h48 => ?_) (fun h48 => ?_)
    · have hab : 0 ≤ z ∧ z ≤ I 509 1 - 1 := by
        by_cases hc : inF z 0 (I 509 1 - 1) = 0
        · have : t1C I z = 1 := if_pos hc
          omega
        · exact inF_1.mp hc
      obtain ⟨p, rfl⟩ := Int.eq_ofNat_of_zero_le hab.1
      have hp : p < 25 := by omega
      have w4p := w4 p hp
      have w3p := w3 p hp
      have hzn : ((p : Nat) : Int).toNat = p := rfl
      have hd1 : dg1 I (p : Int) = dgM I p := by unfold dg1; rw [if_pos (by omega)]; rfl
      have hs6 : mLn (up I 508 6 (t1C I (p : Int))) p = mLn I p := by unfold mLn; rw [up_ne (by omega)]
      refine v_iload_n dX9_character_55 rfl ?_
      refine v_aload_n dX9_character_56 rfl ?_
      refine v_iload_n dX9_character_57 rfl ?_
      refine v_cV1 dX9_character_58 lk_X9_199 (by assumption) (by decide) rfl (k_lengthOf hfl hM hp) (by decide) (Nat.le_of_ble_eq_true rfl) ?_ rfl
      rw [hs6]
      refine v_iadd dX9_character_61 ?_
      refine v_iconst dX9_character_62 ?_
      refine v_iadd dX9_character_63 ?_
      exact M64 _ (by unfold al1; first | (rw [if_neg (by omega)]; done) | (rw [if_pos (by omega), hd1]; rfl))
    · refine v_iconst dX9_character_51 ?_
      refine v_goto (tgt := 64) dX9_character_52 (by decide) ?_
      exact M64 _ (by unfold al1; first | (rw [if_neg (by omega)]; done) | (rw [if_pos (by omega), hd1]; rfl))
  have M14 : ∀ T : Int, T = t1C I z → V l g mX9_character 2 (Zm g (QE (some (.int (ii (chM9 I z x).1))) S (chM9 I z x).2 X)) 0 0 14 [some (.ref 508), some (.int (ii z)), some (.int (ii x)), none, none] [.int (ii T), .ref 508] S I X := by
    intro T hTf
    subst hTf
    refine v_puti dX9_character_14 fr_X9_115 (by assumption) (by decide) rfl ?_
    refine v_aload_n dX9_character_17 rfl ?_
    refine v_geti dX9_character_18 fr_X9_115 (by assumption) (by decide) rfl ?_
    rw [up_eq]
    have t02 : t1C I z = 0 ∨ t1C I z = 1 := by unfold t1C; split <;> omega
    refine v_if_le (tgt := 28) dX9_character_21 (by decide) (fun h21 => ?_) (fun h21 => ?_)
    · have hab : 0 ≤ z ∧ z ≤ I 509 1 - 1 := by
        by_cases hc : inF z 0 (I 509 1 - 1) = 0
        · have : t1C I z = 1 := if_pos hc
          omega
        · exact inF_1.mp hc
      obtain ⟨p, rfl⟩ := Int.eq_ofNat_of_zero_le hab.1
      have hp : p < 25 := by omega
      have w4p := w4 p hp
      have w3p := w3 p hp
      have hzn : ((p : Nat) : Int).toNat = p := rfl
      have hs6 : mSz (up I 508 6 (t1C I (p : Int))) p = mSz I p := by unfold mSz; rw [up_ne (by omega)]
      have hdm : dgM I p = if 9 < mSz I p then 2 else 1 := rfl
      refine v_aload_n dX9_character_28 rfl ?_
      refine v_iload_n dX9_character_29 rfl ?_
      refine v_cV1 dX9_character_30 lk_X9_203 (by assumption) (by decide) rfl (k_sizeOf hfl hM hp) (by decide) (Nat.le_of_ble_eq_true rfl) ?_ rfl
      rw [hs6]
      refine v_bipush dX9_character_33 (by decide) ?_
      refine v_ic_le (tgt := 42) dX9_character_35 (by decide) (fun h35 => ?_) (fun h35 => ?_)
      · refine v_iconst dX9_character_42 ?_
        exact M43 _ (by unfold dg1; first | (rw [if_neg (by omega)]; done) | (rw [if_pos (by omega)]; show _ = dgM I p; rw [hdm]; first | exact (if_pos (by omega)).symm | exact (if_neg (by omega)).symm))
      · refine v_iconst dX9_character_38 ?_
        refine v_goto (tgt := 43) dX9_character_39 (by decide) ?_
        exact M43 _ (by unfold dg1; first | (rw [if_neg (by omega)]; done) | (rw [if_pos (by omega)]; show _ = dgM I p; rw [hdm]; first | exact (if_pos (by omega)).symm | exact (if_neg (by omega)).symm))
    · refine v_iconst dX9_character_24 ?_
      refine v_goto (tgt := 43) dX9_character_25 (by decide) ?_
      exact M43 _ (by unfold dg1; first | (rw [if_neg (by omega)]; done) | (rw [if_pos (by omega)]; show _ = dgM I p; rw [hdm]; first | exact (if_pos (by omega)).symm | exact (if_neg (by omega)).symm))
  refine v_startE hfl rfl (by decide) (Nat.le_of_ble_eq_true rfl) (ls := [some (.ref 508), some (.int (ii z)), some (.int (ii x)), none, none]) rfl ?_
  refine v_aload_n dX9_character_0 rfl ?_
  refine v_aload_n dX9_character_1 rfl ?_
  refine v_iload_n dX9_character_2 rfl ?_
  refine v_cV1 dX9_character_3 lk_X9_161 (by assumption) (by decide) rfl (k_isPile hfl hM hMI.1 (by omega)) (by decide) (Nat.le_of_ble_eq_true rfl) ?_ rfl
  have hi := inF_01 z 0 (I 509 1 - 1)
  refine v_if_eq (tgt := 13) dX9_character_6 (by decide) (fun h6 => ?_) (fun h6 => ?_)
  · refine v_iconst dX9_character_13 ?_
    exact M14 _ (by unfold t1C; (repeat (first | rw [if_pos (by omega)] | rw [if_neg (by omega)])))
  · refine v_iconst dX9_character_9 ?_
    refine v_goto (tgt := 14) dX9_character_10 (by decide) ?_
    exact M14 _ (by unfold t1C; (repeat (first | rw [if_pos (by omega)] | rw [if_neg (by omega)])))

set_option maxRecDepth 100000 in
set_option maxHeartbeats 4000000 in
theorem k_preferring {l : Launch} {g : GV} {S : SS} {I : II} {X : XX} {c o : Int} (hfl : l.stackTraces = false) (hM : isMod S) (hMI : MI I) (hc : -2147483648 ≤ c ∧ c < 2147483648) (ho : -2147483648 ≤ o ∧ o < 2147483648) : CE l g mX9_preferring 4 [.ref 508, .int (ii c), .int (ii o)] S I X (some (.int (ii (pfM I c o).1))) (pfM I c o).2 := by
  obtain ⟨m0, ⟨p509, q509⟩, ⟨p510, q510⟩, ⟨p511, q511⟩, ⟨p512, q512⟩, ⟨p513, q513⟩, ⟨p514, q514⟩, ⟨p515, q515⟩, ⟨p516, q516⟩, ⟨p517, q517⟩, ⟨p518, q518⟩, ⟨p519, q519⟩, ⟨p520, q520⟩, ⟨p521, q521⟩, ⟨p522, q522⟩, ⟨p523, q523⟩, ⟨p524, q524⟩, ⟨p525, q525⟩, ⟨p526, q526⟩, ⟨p527, q527⟩, ⟨p528, q528⟩, ⟨p529, q529⟩, ⟨p530, q530⟩, ⟨p531, q531⟩, ⟨p532, q532⟩, ⟨p533, q533⟩, ⟨p534, q534⟩, ⟨p535, q535⟩, ⟨p536, q536⟩, ⟨p537, q537⟩, ⟨p538, q538⟩, ⟨p539, q539⟩, ⟨p540, q540⟩⟩ := id hM
  obtain ⟨w0, w1, w2, w3, w4, w5, w6, w7, w8, w9, w10⟩ := id hMI.1
  have Mt : ∀ T : Int, True → T = tPf I c o → V l g mX9_preferring 4 (Zm g (QE (some (.int (ii (pfM I c o).1))) S (pfM I c o).2 X)) 0 0 22 [some (.ref 508), some (.int (ii c)), some (.int (ii o))] [.int (ii T), .ref 508] S I X := by
    intro T _ hTf
    subst hTf
    refine v_puti dX9_preferring_22 fr_X9_115 (by assumption) (by decide) rfl ?_
    refine v_aload_n dX9_preferring_25 rfl ?_
    refine v_geti dX9_preferring_26 fr_X9_115 (by assumption) (by decide) rfl ?_
    rw [up_eq]
    have t01 : tPf I c o = 0 ∨ tPf I c o = 1 := by unfold tPf; split <;> omega
    refine v_if_le (tgt := 36) dX9_preferring_29 (by decide) (fun h29 => ?_) (fun h29 => ?_)
    · refine v_aload_n dX9_preferring_36 rfl ?_
      refine v_iload_n dX9_preferring_37 rfl ?_
      refine v_iload_n dX9_preferring_38 rfl ?_
      refine v_cV2 dX9_preferring_39 lk_X9_303 (by assumption) (by decide) rfl (k_prefer hfl hM (WfM_of hMI.1 (up_ne (by omega))) hc ho) (by decide) (Nat.le_of_ble_eq_true rfl) ?_ rfl
      first
        | exact v_iE dX9_preferring_42 rfl (by unfold pfM; rw [if_neg (by omega)]) (by unfold pfM; rw [if_neg (by omega)])
        | (rw [mPf_s (J := I) (up_ne (by omega)), show (up I 508 6 (tPf I c o)) 509 = I 509 from up_ne (by omega)]
           exact v_iE dX9_preferring_42 rfl (by unfold pfM; rw [if_pos (by omega)]) (by unfold pfM; rw [if_pos (by omega), show tPf I c o = 0 by omega]))
    · refine v_iconst dX9_preferring_32 ?_
      refine v_goto (tgt := 42) dX9_preferring_33 (by decide) ?_
      first
        | exact v_iE dX9_preferring_42 rfl (by unfold pfM; rw [if_neg (by omega)]) (by unfold pfM; rw [if_neg (by omega)])
        | (rw [mPf_s (J := I) (up_ne (by omega)), show (up I 508 6 (tPf I c o)) 509 = I 509 from up_ne (by omega)]
           exact v_iE dX9_preferring_42 rfl (by unfold pfM; rw [if_pos (by omega)]) (by unfold pfM; rw [if_pos (by omega), show tPf I c o = 0 by omega]))
  refine v_startE hfl rfl (by decide) (Nat.le_of_ble_eq_true rfl) (ls := [some (.ref 508), some (.int (ii c)), some (.int (ii o))]) rfl ?_
  refine v_aload_n dX9_preferring_0 rfl ?_
  refine v_aload_n dX9_preferring_1 rfl ?_
  refine v_iload_n dX9_preferring_2 rfl ?_
  refine v_cV1 dX9_preferring_3 lk_X9_168 (by assumption) (by decide) rfl (k_isCand hfl hM hMI.1 (by omega)) (by decide) (Nat.le_of_ble_eq_true rfl) ?_ rfl
  have hi := inF_01 c 0 (I 509 0 - 1)
  refine v_if_eq (tgt := 21) dX9_preferring_6 (by decide) (fun h6 => ?_) (fun h6 => ?_)
  · refine v_iconst dX9_preferring_21 ?_
    exact Mt _ trivial (by unfold tPf; (repeat (first | rw [if_pos (by omega)] | rw [if_neg (by omega)])))
  · refine v_aload_n dX9_preferring_9 rfl ?_
    refine v_iload_n dX9_preferring_10 rfl ?_
    refine v_cV1 dX9_preferring_11 lk_X9_168 (by assumption) (by decide) rfl (k_isCand hfl hM hMI.1 (by omega)) (by decide) (Nat.le_of_ble_eq_true rfl) ?_ rfl
    have hj := inF_01 o 0 (I 509 0 - 1)
    refine v_if_eq (tgt := 21) dX9_preferring_14 (by decide) (fun h14 => ?_) (fun h14 => ?_)
    · refine v_iconst dX9_preferring_21 ?_
      exact Mt _ trivial (by unfold tPf; (repeat (first | rw [if_pos (by omega)] | rw [if_neg (by omega)])))
    · refine v_iconst dX9_preferring_17 ?_
      refine v_goto (tgt := 22) dX9_preferring_18 (by decide) ?_
      exact Mt _ trivial (by unfold tPf; (repeat (first | rw [if_pos (by omega)] | rw [if_neg (by omega)])))

set_option maxRecDepth 100000 in
set_option maxHeartbeats 4000000 in
theorem k_points {l : Launch} {g : GV} {S : SS} {I : II} {X : XX} {c : Int} (hfl : l.stackTraces = false) (hM : isMod S) (hMI : MI I) (hc : -2147483648 ≤ c ∧ c < 2147483648) : CE l g mX9_points 4 [.ref 508, .int (ii c)] S I X (some (.int (ii (ptM I c).1))) (ptM I c).2 := by
  obtain ⟨m0, ⟨p509, q509⟩, ⟨p510, q510⟩, ⟨p511, q511⟩, ⟨p512, q512⟩, ⟨p513, q513⟩, ⟨p514, q514⟩, ⟨p515, q515⟩, ⟨p516, q516⟩, ⟨p517, q517⟩, ⟨p518, q518⟩, ⟨p519, q519⟩, ⟨p520, q520⟩, ⟨p521, q521⟩, ⟨p522, q522⟩, ⟨p523, q523⟩, ⟨p524, q524⟩, ⟨p525, q525⟩, ⟨p526, q526⟩, ⟨p527, q527⟩, ⟨p528, q528⟩, ⟨p529, q529⟩, ⟨p530, q530⟩, ⟨p531, q531⟩, ⟨p532, q532⟩, ⟨p533, q533⟩, ⟨p534, q534⟩, ⟨p535, q535⟩, ⟨p536, q536⟩, ⟨p537, q537⟩, ⟨p538, q538⟩, ⟨p539, q539⟩, ⟨p540, q540⟩⟩ := id hM
  obtain ⟨w0, w1, w2, w3, w4, w5, w6, w7, w8, w9, w10⟩ := id hMI.1
  obtain ⟨n, hn⟩ := Int.eq_ofNat_of_zero_le (show 0 ≤ I 509 0 by omega)
  have Mt : ∀ T : Int, True → T = tWd I c → V l g mX9_points 4 (Zm g (QE (some (.int (ii (ptM I c).1))) S (ptM I c).2 X)) 0 0 14 [some (.ref 508), some (.int (ii c)), none, none] [.int (ii T), .ref 508] S I X := by
    intro T _ hTf
    subst hTf
    refine v_puti dX9_points_14 fr_X9_115 (by assumption) (by decide) rfl ?_
    refine v_aload_n dX9_points_17 rfl ?_
    refine v_geti dX9_points_18 fr_X9_115 (by assumption) (by decide) rfl ?_
    rw [up_eq]
    have t01 : tWd I c = 0 ∨ tWd I c = 1 := by unfold tWd; split <;> omega
    refine v_if_le (tgt := 26) dX9_points_21 (by decide) (fun h21 => ?_) (fun h21 => ?_)
    · refine v_iconst dX9_points_26 ?_
      refine v_istn2 dX9_points_27 rfl ?_
      refine v_iconst dX9_points_28 ?_
      refine v_istn3 dX9_points_29 rfl ?_
      have L : ∀ k : Nat, k ≤ n → V l g mX9_points 4 (Zm g (QE (some (.int (ii (ptM I c).1))) S (ptM I c).2 X)) 0 0 30 [some (.ref 508), some (.int (ii c)), some (.int (ii (ptS I c k))), some (.int (ii (k : Int)))] [] S (up I 508 6 (tWd I c)) X := by
        refine loop_up fun k hk ih => ?_
        refine v_iload_n dX9_points_30 rfl ?_
        refine v_aload_n dX9_points_31 rfl ?_
        refine v_getr dX9_points_32 fr_X9_9 (by assumption) (by decide) rfl (by assumption) ?_
        refine v_iconst dX9_points_35 ?_
        refine v_iald (j := 0) dX9_points_36 (by assumption) rfl (by omega) ?_
        rw [up_ne (by omega), hn]
        refine v_ic_ge (tgt := 55) dX9_points_37 (by decide) (fun h37 => ?_) (fun h37 => ?_)
        · obtain rfl : k = n := by omega
          refine v_iload_n dX9_points_55 rfl ?_
          exact v_iE dX9_points_56 rfl (by unfold ptM; rw [if_pos (by omega), hn]; rfl) (by unfold ptM; rw [if_pos (by omega), show tWd I c = 0 by omega])
        · refine v_iload_n dX9_points_40 rfl ?_
          refine v_aload_n dX9_points_41 rfl ?_
          refine v_iload_n dX9_points_42 rfl ?_
          refine v_iload_n dX9_points_43 rfl ?_
          refine v_cV2 dX9_points_44 lk_X9_303 (by assumption) (by decide) rfl (k_prefer hfl hM (WfM_of hMI.1 (up_ne (by omega))) hc (by omega)) (by decide) (Nat.le_of_ble_eq_true rfl) ?_ rfl
          rw [mPf_s (J := I) (up_ne (by omega)), show (up I 508 6 (tWd I c)) 509 = I 509 from up_ne (by omega)]
          refine v_iadd dX9_points_47 ?_
          refine v_istn2 dX9_points_48 rfl ?_
          refine v_iinc3 dX9_points_49 rfl ?_
          refine v_goto (tgt := 30) dX9_points_52 (by decide) ?_
          exact ih (k + 1) (by omega) (by omega)
      exact L 0 (Nat.zero_le _)
    · refine v_iconst dX9_points_24 ?_
      exact v_iE dX9_points_25 rfl (by unfold ptM; (repeat (first | rw [if_pos (by omega)] | rw [if_neg (by omega)])); first | done | rfl) (by unfold ptM; (repeat (first | rw [if_pos (by omega)] | rw [if_neg (by omega)])); first | done | rfl)
  refine v_startE hfl rfl (by decide) (Nat.le_of_ble_eq_true rfl) (ls := [some (.ref 508), some (.int (ii c)), none, none]) rfl ?_
  refine v_aload_n dX9_points_0 rfl ?_
  refine v_aload_n dX9_points_1 rfl ?_
  refine v_iload_n dX9_points_2 rfl ?_
  refine v_cV1 dX9_points_3 lk_X9_168 (by assumption) (by decide) rfl (k_isCand hfl hM hMI.1 (by omega)) (by decide) (Nat.le_of_ble_eq_true rfl) ?_ rfl
  have hi := inF_01 c 0 (I 509 0 - 1)
  refine v_if_eq (tgt := 13) dX9_points_6 (by decide) (fun h6 => ?_) (fun h6 => ?_)
  · refine v_iconst dX9_points_13 ?_
    exact Mt _ trivial (by unfold tWd; (repeat (first | rw [if_pos (by omega)] | rw [if_neg (by omega)])))
  · refine v_iconst dX9_points_9 ?_
    refine v_goto (tgt := 14) dX9_points_10 (by decide) ?_
    exact Mt _ trivial (by unfold tWd; (repeat (first | rw [if_pos (by omega)] | rw [if_neg (by omega)])))

/-- does c beat those from d on, so far (b) -/
def bbF (J : II) (c : Nat) : Nat → Nat → Int → Int
  | 0, _, b => b
  | k + 1, d, b => if b = 0 then 0 else bbF J c k (d + 1) (if (d : Int) = c ∨ ¬ btI (J 509 2).toNat d = 0 ∨ mPf J d c (J 509 1).toNat < mPf J c d (J 509 1).toNat then 1 else 0)
def bcB (J : II) (c : Nat) : Int := bbF J c (J 509 0).toNat 0 (if btI (J 509 2).toNat c = 0 then 1 else 0)
def bzF (J : II) : Nat → Nat → Int
  | 0, _ => -1
  | k + 1, c => if bcB J c = 0 then bzF J k (c + 1) else c
theorem mPf_b {J : II} (h : WfM J) (c o : Int) : ∀ n, n ≤ 25 → 0 ≤ mPf J c o n ∧ mPf J c o n ≤ 99 * n
  | 0, _ => by
    show 0 ≤ (0 : Int) ∧ (0 : Int) ≤ 99 * ((0 : Nat) : Int)
    decide
  | n + 1, hn => by
    have ih := mPf_b h c o n (by omega)
    have w3 := h.2.2.2.1 n (by omega)
    unfold mPf
    split <;> omega


set_option maxRecDepth 100000 in
set_option maxHeartbeats 4000000 in
theorem k_baI {l : Launch} {g : GV} {S : SS} {I : II} {X : XX} {Z : ZZ} {c n : Nat} {k9 : Int} (hfl : l.stackTraces = false) (hM : isMod S) (hMI : MI I) (hc8 : c < 8) (hn : I 509 0 = (n : Int)) (kk : ∀ d : Nat, V l g mX9_beatsAll 4 Z 0 0 87 [some (.ref 508), some (.int (ii (c : Int))), some (.int (ii k9)), some (.int (ii (d : Int)))] [] S (up I 508 6 0) X) : ∀ d : Nat, d ≤ n → ∀ b : Int, b = 0 ∨ b = 1 → bbF I c (n - d) d b = k9 → V l g mX9_beatsAll 4 Z 0 0 33 [some (.ref 508), some (.int (ii (c : Int))), some (.int (ii b)), some (.int (ii (d : Int)))] [] S (up I 508 6 0) X := by
  obtain ⟨m0, ⟨p509, q509⟩, ⟨p510, q510⟩, ⟨p511, q511⟩, ⟨p512, q512⟩, ⟨p513, q513⟩, ⟨p514, q514⟩, ⟨p515, q515⟩, ⟨p516, q516⟩, ⟨p517, q517⟩, ⟨p518, q518⟩, ⟨p519, q519⟩, ⟨p520, q520⟩, ⟨p521, q521⟩, ⟨p522, q522⟩, ⟨p523, q523⟩, ⟨p524, q524⟩, ⟨p525, q525⟩, ⟨p526, q526⟩, ⟨p527, q527⟩, ⟨p528, q528⟩, ⟨p529, q529⟩, ⟨p530, q530⟩, ⟨p531, q531⟩, ⟨p532, q532⟩, ⟨p533, q533⟩, ⟨p534, q534⟩, ⟨p535, q535⟩, ⟨p536, q536⟩, ⟨p537, q537⟩, ⟨p538, q538⟩, ⟨p539, q539⟩, ⟨p540, q540⟩⟩ := id hM
  obtain ⟨w0, w1, w2, w3, w4, w5, w6, w7, w8, w9, w10⟩ := id hMI.1
  have hU : MI (up I 508 6 0) := MI_up hMI (by omega) (by omega)
  refine loop_up fun d hd ih => ?_
  intro b hb hk
  refine v_iload_n dX9_beatsAll_33 rfl ?_
  refine v_aload_n dX9_beatsAll_34 rfl ?_
  refine v_getr dX9_beatsAll_35 fr_X9_9 (by assumption) (by decide) rfl (by assumption) ?_
  refine v_iconst dX9_beatsAll_38 ?_
  refine v_iald (j := 0) dX9_beatsAll_39 (by assumption) rfl (by omega) ?_
  rw [up_ne (by omega), hn]
  refine v_ic_ge (tgt := 87) dX9_beatsAll_40 (by decide) (fun h40 => ?_) (fun h40 => ?_)
  · have hkk : k9 = b := by
      rw [← hk]
      first
        | (rw [show n - d = 0 by omega]; rfl)
        | (rw [ex, if_pos (by omega)]; omega)
    subst hkk
    exact kk _
  · have ex : bbF I c (n - d) d b = if b = 0 then 0 else bbF I c (n - (d + 1)) (d + 1) (if (d : Int) = c ∨ ¬ btI (I 509 2).toNat d = 0 ∨ mPf I d c (I 509 1).toNat < mPf I c d (I 509 1).toNat then 1 else 0) := by
      rw [show n - d = (n - (d + 1)) + 1 by omega]
      rfl
    refine v_iload_n dX9_beatsAll_43 rfl ?_
    refine v_if_eq (tgt := 87) dX9_beatsAll_44 (by decide) (fun h44 => ?_) (fun h44 => ?_)
    · have hkk : k9 = b := by
        rw [← hk]
        first
          | (rw [show n - d = 0 by omega]; rfl)
          | (rw [ex, if_pos (by omega)]; omega)
      subst hkk
      exact kk _
    · refine v_iload_n dX9_beatsAll_47 rfl ?_
      refine v_iload_n dX9_beatsAll_48 rfl ?_
      refine v_ic_eq (tgt := 75) dX9_beatsAll_49 (by decide) (fun h49 => ?_) (fun h49 => ?_)
      · refine v_iconst dX9_beatsAll_75 ?_
        refine v_goto (tgt := 80) dX9_beatsAll_76 (by decide) ?_
        refine v_istn2 dX9_beatsAll_80 rfl ?_
        refine v_iinc3 dX9_beatsAll_81 rfl ?_
        refine v_goto (tgt := 33) dX9_beatsAll_84 (by decide) ?_
        have q9 := ih (d + 1) (by omega) (by omega) (if (d : Int) = c ∨ ¬ btI (I 509 2).toNat d = 0 ∨ mPf I d c (I 509 1).toNat < mPf I c d (I 509 1).toNat then 1 else 0) (by split <;> omega) ((ex.trans (if_neg (by omega))).symm.trans hk)
        first
          | (rw [if_pos (by omega)] at q9; exact q9)
          | (rw [if_neg (by omega)] at q9; exact q9)
      · refine v_aload_n dX9_beatsAll_52 rfl ?_
        refine v_iload_n dX9_beatsAll_53 rfl ?_
        refine v_cV1 dX9_beatsAll_54 lk_X9_196 (by assumption) (by decide) rfl (k_isGone hfl hM hU.1 (by omega)) (by decide) (Nat.le_of_ble_eq_true rfl) ?_ rfl
        rw [show (up I 508 6 0) 509 = I 509 from up_ne (by omega)]
        have hg9 := btI_01 (I 509 2).toNat d
        refine v_if_ne (tgt := 75) dX9_beatsAll_57 (by decide) (fun h57 => ?_) (fun h57 => ?_)
        · refine v_iconst dX9_beatsAll_75 ?_
          refine v_goto (tgt := 80) dX9_beatsAll_76 (by decide) ?_
          refine v_istn2 dX9_beatsAll_80 rfl ?_
          refine v_iinc3 dX9_beatsAll_81 rfl ?_
          refine v_goto (tgt := 33) dX9_beatsAll_84 (by decide) ?_
          have q9 := ih (d + 1) (by omega) (by omega) (if (d : Int) = c ∨ ¬ btI (I 509 2).toNat d = 0 ∨ mPf I d c (I 509 1).toNat < mPf I c d (I 509 1).toNat then 1 else 0) (by split <;> omega) ((ex.trans (if_neg (by omega))).symm.trans hk)
          first
            | (rw [if_pos (by omega)] at q9; exact q9)
            | (rw [if_neg (by omega)] at q9; exact q9)
        · refine v_aload_n dX9_beatsAll_60 rfl ?_
          refine v_iload_n dX9_beatsAll_61 rfl ?_
          refine v_iload_n dX9_beatsAll_62 rfl ?_
          refine v_cV2 dX9_beatsAll_63 lk_X9_303 (by assumption) (by decide) rfl (k_prefer hfl hM hU.1 (by omega) (by omega)) (by decide) (Nat.le_of_ble_eq_true rfl) ?_ rfl
          rw [mPf_s (J := I) (up_ne (by omega)), show (up I 508 6 0) 509 = I 509 from up_ne (by omega)]
          have b1 := mPf_b hMI.1 c d (I 509 1).toNat (by omega)
          refine v_aload_n dX9_beatsAll_66 rfl ?_
          refine v_iload_n dX9_beatsAll_67 rfl ?_
          refine v_iload_n dX9_beatsAll_68 rfl ?_
          refine v_cV2 dX9_beatsAll_69 lk_X9_303 (by assumption) (by decide) rfl (k_prefer hfl hM hU.1 (by omega) (by omega)) (by decide) (Nat.le_of_ble_eq_true rfl) ?_ rfl
          rw [mPf_s (J := I) (up_ne (by omega)), show (up I 508 6 0) 509 = I 509 from up_ne (by omega)]
          have b2 := mPf_b hMI.1 d c (I 509 1).toNat (by omega)
          refine v_ic_le (tgt := 79) dX9_beatsAll_72 (by decide) (fun h72 => ?_) (fun h72 => ?_)
          · refine v_iconst dX9_beatsAll_79 ?_
            refine v_istn2 dX9_beatsAll_80 rfl ?_
            refine v_iinc3 dX9_beatsAll_81 rfl ?_
            refine v_goto (tgt := 33) dX9_beatsAll_84 (by decide) ?_
            have q9 := ih (d + 1) (by omega) (by omega) (if (d : Int) = c ∨ ¬ btI (I 509 2).toNat d = 0 ∨ mPf I d c (I 509 1).toNat < mPf I c d (I 509 1).toNat then 1 else 0) (by split <;> omega) ((ex.trans (if_neg (by omega))).symm.trans hk)
            first
              | (rw [if_pos (by omega)] at q9; exact q9)
              | (rw [if_neg (by omega)] at q9; exact q9)
          · refine v_iconst dX9_beatsAll_75 ?_
            refine v_goto (tgt := 80) dX9_beatsAll_76 (by decide) ?_
            refine v_istn2 dX9_beatsAll_80 rfl ?_
            refine v_iinc3 dX9_beatsAll_81 rfl ?_
            refine v_goto (tgt := 33) dX9_beatsAll_84 (by decide) ?_
            have q9 := ih (d + 1) (by omega) (by omega) (if (d : Int) = c ∨ ¬ btI (I 509 2).toNat d = 0 ∨ mPf I d c (I 509 1).toNat < mPf I c d (I 509 1).toNat then 1 else 0) (by split <;> omega) ((ex.trans (if_neg (by omega))).symm.trans hk)
            first
              | (rw [if_pos (by omega)] at q9; exact q9)
              | (rw [if_neg (by omega)] at q9; exact q9)

theorem bb_01 {J : II} {c : Nat} : ∀ (k d : Nat) (b : Int), b = 0 ∨ b = 1 → bbF J c k d b = 0 ∨ bbF J c k d b = 1
  | 0, _, _, h => h
  | k + 1, d, b, h => by
    unfold bbF
    split
    · exact Or.inl rfl
    · exact bb_01 k (d + 1) _ (by split <;> omega)

set_option maxRecDepth 100000 in
set_option maxHeartbeats 4000000 in
theorem k_beatsAll {l : Launch} {g : GV} {S : SS} {I : II} {X : XX} (hfl : l.stackTraces = false) (hM : isMod S) (hMI : MI I) : CE l g mX9_beatsAll 4 [.ref 508] S I X (some (.int (ii (bzF I (I 509 0).toNat 0)))) (up I 508 6 0) := by
  obtain ⟨m0, ⟨p509, q509⟩, ⟨p510, q510⟩, ⟨p511, q511⟩, ⟨p512, q512⟩, ⟨p513, q513⟩, ⟨p514, q514⟩, ⟨p515, q515⟩, ⟨p516, q516⟩, ⟨p517, q517⟩, ⟨p518, q518⟩, ⟨p519, q519⟩, ⟨p520, q520⟩, ⟨p521, q521⟩, ⟨p522, q522⟩, ⟨p523, q523⟩, ⟨p524, q524⟩, ⟨p525, q525⟩, ⟨p526, q526⟩, ⟨p527, q527⟩, ⟨p528, q528⟩, ⟨p529, q529⟩, ⟨p530, q530⟩, ⟨p531, q531⟩, ⟨p532, q532⟩, ⟨p533, q533⟩, ⟨p534, q534⟩, ⟨p535, q535⟩, ⟨p536, q536⟩, ⟨p537, q537⟩, ⟨p538, q538⟩, ⟨p539, q539⟩, ⟨p540, q540⟩⟩ := id hM
  obtain ⟨w0, w1, w2, w3, w4, w5, w6, w7, w8, w9, w10⟩ := id hMI.1
  have hU : MI (up I 508 6 0) := MI_up hMI (by omega) (by omega)
  obtain ⟨n, hn⟩ := Int.eq_ofNat_of_zero_le (show 0 ≤ I 509 0 by omega)
  rw [show (I 509 0).toNat = n by rw [hn]; rfl]
  have L : ∀ c : Nat, c ≤ n → ∀ x2 x3 : Option Value, bzF I (n - c) c = bzF I n 0 → V l g mX9_beatsAll 4 (Zm g (QE (some (.int (ii (bzF I n 0)))) S (up I 508 6 0) X)) 0 0 7 [some (.ref 508), some (.int (ii (c : Int))), x2, x3] [] S (up I 508 6 0) X := by
    refine loop_up fun c hc ih => ?_
    intro x2 x3 hk
    refine v_iload_n dX9_beatsAll_7 rfl ?_
    refine v_aload_n dX9_beatsAll_8 rfl ?_
    refine v_getr dX9_beatsAll_9 fr_X9_9 (by assumption) (by decide) rfl (by assumption) ?_
    refine v_iconst dX9_beatsAll_12 ?_
    refine v_iald (j := 0) dX9_beatsAll_13 (by assumption) rfl (by omega) ?_
    rw [up_ne (by omega), hn]
    refine v_ic_ge (tgt := 99) dX9_beatsAll_14 (by decide) (fun h14 => ?_) (fun h14 => ?_)
    · refine v_iconst dX9_beatsAll_99 ?_
      exact v_iE dX9_beatsAll_100 rfl (by rw [← hk, show n - c = 0 by omega]; rfl) (rfl)
    · refine v_aload_n dX9_beatsAll_17 rfl ?_
      refine v_iload_n dX9_beatsAll_18 rfl ?_
      refine v_cV1 dX9_beatsAll_19 lk_X9_196 (by assumption) (by decide) rfl (k_isGone hfl hM hU.1 (by omega)) (by decide) (Nat.le_of_ble_eq_true rfl) ?_ rfl
      rw [show (up I 508 6 0) 509 = I 509 from up_ne (by omega)]
      have hg9 := btI_01 (I 509 2).toNat c
      have ex : bzF I (n - c) c = if bcB I c = 0 then bzF I (n - (c + 1)) (c + 1) else c := by
        rw [show n - c = (n - (c + 1)) + 1 by omega]
        rfl
      refine v_if_ne (tgt := 29) dX9_beatsAll_22 (by decide) (fun h22 => ?_) (fun h22 => ?_)
      · refine v_iconst dX9_beatsAll_29 ?_
        refine v_istn2 dX9_beatsAll_30 rfl ?_
        refine v_iconst dX9_beatsAll_31 ?_
        refine v_istn3 dX9_beatsAll_32 rfl ?_
        have hbc : bcB I c = bbF I c n 0 (if btI (I 509 2).toNat c = 0 then 1 else 0) := by unfold bcB; rw [hn]; rfl
        have h01 : bcB I c = 0 ∨ bcB I c = 1 := bb_01 _ _ _ (by split <;> omega)
        have K : ∀ d : Nat, V l g mX9_beatsAll 4 (Zm g (QE (some (.int (ii (bzF I n 0)))) S (up I 508 6 0) X)) 0 0 87 [some (.ref 508), some (.int (ii (c : Int))), some (.int (ii (bcB I c))), some (.int (ii (d : Int)))] [] S (up I 508 6 0) X := by
          intro d
          refine v_iload_n dX9_beatsAll_87 rfl ?_
          refine v_if_eq (tgt := 93) dX9_beatsAll_88 (by decide) (fun h88 => ?_) (fun h88 => ?_)
          · refine v_iinc1 dX9_beatsAll_93 rfl ?_
            refine v_goto (tgt := 7) dX9_beatsAll_96 (by decide) ?_
            exact ih (c + 1) (by omega) (by omega) _ _ (by rw [← hk, ex, if_pos (by omega)])
          · refine v_iload_n dX9_beatsAll_91 rfl ?_
            exact v_iE dX9_beatsAll_92 rfl (by rw [← hk, ex, if_neg (by omega)]) (rfl)
        first
          | (rw [if_pos (by omega)] at hbc; exact k_baI hfl hM hMI (by omega) hn K 0 (Nat.zero_le _) _ (by omega) hbc.symm)
          | (rw [if_neg (by omega)] at hbc; exact k_baI hfl hM hMI (by omega) hn K 0 (Nat.zero_le _) _ (by omega) hbc.symm)
      · refine v_iconst dX9_beatsAll_25 ?_
        refine v_goto (tgt := 30) dX9_beatsAll_26 (by decide) ?_
        refine v_istn2 dX9_beatsAll_30 rfl ?_
        refine v_iconst dX9_beatsAll_31 ?_
        refine v_istn3 dX9_beatsAll_32 rfl ?_
        have hbc : bcB I c = bbF I c n 0 (if btI (I 509 2).toNat c = 0 then 1 else 0) := by unfold bcB; rw [hn]; rfl
        have h01 : bcB I c = 0 ∨ bcB I c = 1 := bb_01 _ _ _ (by split <;> omega)
        have K : ∀ d : Nat, V l g mX9_beatsAll 4 (Zm g (QE (some (.int (ii (bzF I n 0)))) S (up I 508 6 0) X)) 0 0 87 [some (.ref 508), some (.int (ii (c : Int))), some (.int (ii (bcB I c))), some (.int (ii (d : Int)))] [] S (up I 508 6 0) X := by
          intro d
          refine v_iload_n dX9_beatsAll_87 rfl ?_
          refine v_if_eq (tgt := 93) dX9_beatsAll_88 (by decide) (fun h88 => ?_) (fun h88 => ?_)
          · refine v_iinc1 dX9_beatsAll_93 rfl ?_
            refine v_goto (tgt := 7) dX9_beatsAll_96 (by decide) ?_
            exact ih (c + 1) (by omega) (by omega) _ _ (by rw [← hk, ex, if_pos (by omega)])
          · refine v_iload_n dX9_beatsAll_91 rfl ?_
            exact v_iE dX9_beatsAll_92 rfl (by rw [← hk, ex, if_neg (by omega)]) (rfl)
        first
          | (rw [if_pos (by omega)] at hbc; exact k_baI hfl hM hMI (by omega) hn K 0 (Nat.zero_le _) _ (by omega) hbc.symm)
          | (rw [if_neg (by omega)] at hbc; exact k_baI hfl hM hMI (by omega) hn K 0 (Nat.zero_le _) _ (by omega) hbc.symm)
  refine v_startE hfl rfl (by decide) (Nat.le_of_ble_eq_true rfl) (ls := [some (.ref 508), none, none, none]) rfl ?_
  refine v_aload_n dX9_beatsAll_0 rfl ?_
  refine v_iconst dX9_beatsAll_1 ?_
  refine v_puti dX9_beatsAll_2 fr_X9_115 (by assumption) (by decide) rfl ?_
  refine v_iconst dX9_beatsAll_5 ?_
  refine v_istn1 dX9_beatsAll_6 rfl ?_
  exact L 0 (Nat.zero_le _) _ _ rfl

set_option maxRecDepth 100000 in
set_option maxHeartbeats 4000000 in
theorem k_thrown {l : Launch} {g : GV} {S : SS} {I : II} {X : XX} (hfl : l.stackTraces = false) (hM : isMod S) : CE l g mX9_thrown 0 [.ref 508] S I X (some (.int (ii (I 508 6)))) I := by
  obtain ⟨m0, ⟨p509, q509⟩, ⟨p510, q510⟩, ⟨p511, q511⟩, ⟨p512, q512⟩, ⟨p513, q513⟩, ⟨p514, q514⟩, ⟨p515, q515⟩, ⟨p516, q516⟩, ⟨p517, q517⟩, ⟨p518, q518⟩, ⟨p519, q519⟩, ⟨p520, q520⟩, ⟨p521, q521⟩, ⟨p522, q522⟩, ⟨p523, q523⟩, ⟨p524, q524⟩, ⟨p525, q525⟩, ⟨p526, q526⟩, ⟨p527, q527⟩, ⟨p528, q528⟩, ⟨p529, q529⟩, ⟨p530, q530⟩, ⟨p531, q531⟩, ⟨p532, q532⟩, ⟨p533, q533⟩, ⟨p534, q534⟩, ⟨p535, q535⟩, ⟨p536, q536⟩, ⟨p537, q537⟩, ⟨p538, q538⟩, ⟨p539, q539⟩, ⟨p540, q540⟩⟩ := id hM
  refine v_startE hfl rfl (by decide) (Nat.le_of_ble_eq_true rfl) (ls := [some (.ref 508)]) rfl ?_
  refine v_aload_n dX9_thrown_0 rfl ?_
  refine v_geti dX9_thrown_1 fr_X9_115 (by assumption) (by decide) rfl ?_
  exact v_iE dX9_thrown_4 rfl (rfl) (rfl)

set_option maxRecDepth 100000 in
set_option maxHeartbeats 4000000 in
theorem k_errorPosition {l : Launch} {g : GV} {S : SS} {I : II} {X : XX} (hfl : l.stackTraces = false) (hM : isMod S) : CE l g mX9_errorPosition 0 [.ref 508] S I X (some (.int (ii (I 508 11)))) (up I 508 6 0) := by
  obtain ⟨m0, ⟨p509, q509⟩, ⟨p510, q510⟩, ⟨p511, q511⟩, ⟨p512, q512⟩, ⟨p513, q513⟩, ⟨p514, q514⟩, ⟨p515, q515⟩, ⟨p516, q516⟩, ⟨p517, q517⟩, ⟨p518, q518⟩, ⟨p519, q519⟩, ⟨p520, q520⟩, ⟨p521, q521⟩, ⟨p522, q522⟩, ⟨p523, q523⟩, ⟨p524, q524⟩, ⟨p525, q525⟩, ⟨p526, q526⟩, ⟨p527, q527⟩, ⟨p528, q528⟩, ⟨p529, q529⟩, ⟨p530, q530⟩, ⟨p531, q531⟩, ⟨p532, q532⟩, ⟨p533, q533⟩, ⟨p534, q534⟩, ⟨p535, q535⟩, ⟨p536, q536⟩, ⟨p537, q537⟩, ⟨p538, q538⟩, ⟨p539, q539⟩, ⟨p540, q540⟩⟩ := id hM
  refine v_startE hfl rfl (by decide) (Nat.le_of_ble_eq_true rfl) (ls := [some (.ref 508)]) rfl ?_
  refine v_aload_n dX9_errorPosition_0 rfl ?_
  refine v_iconst dX9_errorPosition_1 ?_
  refine v_puti dX9_errorPosition_2 fr_X9_115 (by assumption) (by decide) rfl ?_
  refine v_aload_n dX9_errorPosition_5 rfl ?_
  refine v_geti dX9_errorPosition_6 fr_X9_25 (by assumption) (by decide) rfl ?_
  rw [up_nk (by omega)]
  exact v_iE dX9_errorPosition_9 rfl (rfl) (rfl)

def apU (p : Int) (J : II) : Nat → II
  | 0 => J
  | i + 1 => if sgF p i = 0 then apU p J i else up (up (apU p J i) 513 (apU p J i 508 8).toNat (sgF p i)) 508 8 (apU p J i 508 8 + 1)
def tAp (J : II) (p : Int) : Int := if bdF p 4 = 1 then 1 else if 60 < J 508 8 + cnF p 4 then 2 else 0
def apM (J : II) (p : Int) : Int × II := if tAp J p ≤ 0 then (apU p (up J 508 6 (tAp J p)) 4 508 8, apU p (up J 508 6 (tAp J p)) 4) else (0, up J 508 6 (tAp J p))
theorem ap_len (p : Int) (J : II) : ∀ i, apU p J i 508 8 = J 508 8 + cnF p i
  | 0 => (Int.add_zero _).symm
  | i + 1 => by
    have ih := ap_len p J i
    unfold apU cnF
    split
    · exact ih
    · rw [up_eq, ih]; omega
theorem bd_01 (p : Int) : ∀ i, bdF p i = 0 ∨ bdF p i = 1
  | 0 => Or.inl rfl
  | i + 1 => by unfold bdF; split <;> omega

set_option maxRecDepth 100000 in
set_option maxHeartbeats 4000000 in
theorem k_append {l : Launch} {g : GV} {S : SS} {I : II} {X : XX} {p : Int} (hfl : l.stackTraces = false) (hM : isMod S) (hMI : MI I) (hl6 : 0 ≤ I 508 8 ∧ I 508 8 ≤ 60) (hp : -2147483648 ≤ p ∧ p < 2147483648) : CE l g mX9_append 1 [.ref 508, .int (ii p)] S I X (some (.int (ii (apM I p).1))) (apM I p).2 := by
  obtain ⟨m0, ⟨p509, q509⟩, ⟨p510, q510⟩, ⟨p511, q511⟩, ⟨p512, q512⟩, ⟨p513, q513⟩, ⟨p514, q514⟩, ⟨p515, q515⟩, ⟨p516, q516⟩, ⟨p517, q517⟩, ⟨p518, q518⟩, ⟨p519, q519⟩, ⟨p520, q520⟩, ⟨p521, q521⟩, ⟨p522, q522⟩, ⟨p523, q523⟩, ⟨p524, q524⟩, ⟨p525, q525⟩, ⟨p526, q526⟩, ⟨p527, q527⟩, ⟨p528, q528⟩, ⟨p529, q529⟩, ⟨p530, q530⟩, ⟨p531, q531⟩, ⟨p532, q532⟩, ⟨p533, q533⟩, ⟨p534, q534⟩, ⟨p535, q535⟩, ⟨p536, q536⟩, ⟨p537, q537⟩, ⟨p538, q538⟩, ⟨p539, q539⟩, ⟨p540, q540⟩⟩ := id hM
  have M94 : ∀ T : Int, T = tAp I p → V l g mX9_append 1 (Zm g (QE (some (.int (ii (apM I p).1))) S (apM I p).2 X)) 0 0 94 [some (.ref 508), some (.int (ii p)), none, none, some (.int (ii (24 - 8 * ((4 : Nat) : Int)))), none] [.int (ii T), .ref 508] S I X := by
    intro T hTf
    subst hTf
    refine v_puti dX9_append_94 fr_X9_115 (by assumption) (by decide) rfl ?_
    refine v_aload_n dX9_append_97 rfl ?_
    refine v_geti dX9_append_98 fr_X9_115 (by assumption) (by decide) rfl ?_
    rw [up_eq]
    have t01 : tAp I p = 0 ∨ tAp I p = 1 ∨ tAp I p = 2 := by unfold tAp; split <;> (try split) <;> omega
    refine v_if_le (tgt := 106) dX9_append_101 (by decide) (fun h101 => ?_) (fun h101 => ?_)
    · have h60 : I 508 8 + cnF p 4 ≤ 60 := by
        by_cases h1 : bdF p 4 = 1
        · have : tAp I p = 1 := if_pos h1
          omega
        · by_cases h2 : 60 < I 508 8 + cnF p 4
          · have : tAp I p = 2 := by unfold tAp; rw [if_neg h1, if_pos h2]
            omega
          · omega
      refine v_bipush dX9_append_106 (by decide) ?_
      refine v_ist4 dX9_append_108 rfl ?_
      have L2 : ∀ i : Nat, i ≤ 4 → V l g mX9_append 1 (Zm g (QE (some (.int (ii (apM I p).1))) S (apM I p).2 X)) 0 0 110 [some (.ref 508), some (.int (ii p)), none, none, some (.int (ii (24 - 8 * (i : Int)))), none] [] S (apU p (up I 508 6 (tAp I p)) i) X := by
        refine loop_up fun i hi jh => ?_
        refine v_iload dX9_append_110 rfl ?_
        refine v_if_lt (tgt := 157) dX9_append_112 (by decide) (fun h112 => ?_) (fun h112 => ?_)
        · obtain rfl : i = 4 := by omega
          refine v_aload_n dX9_append_157 rfl ?_
          refine v_geti dX9_append_158 fr_X9_142 (by assumption) (by decide) rfl ?_
          exact v_iE dX9_append_161 rfl (by unfold apM; rw [if_pos (by omega)]) (by unfold apM; rw [if_pos (by omega)])
        · refine v_iload_n dX9_append_115 rfl ?_
          refine v_iload dX9_append_116 rfl ?_
          refine v_iushr (z := usF p i) dX9_append_118 (ii_of _).symm ?_
          refine v_sipush dX9_append_119 (by decide) ?_
          refine v_iand (z := sgF p i) dX9_append_122 (ii_of _).symm ?_
          have s1 : 0 ≤ sgF p i ∧ sgF p i ≤ 255 := and255 _
          refine v_ist5 dX9_append_123 rfl ?_
          refine v_iload dX9_append_125 rfl ?_
          refine v_if_eq (tgt := 151) dX9_append_127 (by decide) (fun h127 => ?_) (fun h127 => ?_)
          · refine v_iinc4 dX9_append_151 rfl ?_
            rw [show (24 - 8 * (i : Int)) + -8 = 24 - 8 * ((i + 1 : Nat) : Int) by omega]
            refine v_goto (tgt := 110) dX9_append_154 (by decide) ?_
            have ej : apU p (up I 508 6 (tAp I p)) (i + 1) = if sgF p i = 0 then apU p (up I 508 6 (tAp I p)) i else up (up (apU p (up I 508 6 (tAp I p)) i) 513 (apU p (up I 508 6 (tAp I p)) i 508 8).toNat (sgF p i)) 508 8 (apU p (up I 508 6 (tAp I p)) i 508 8 + 1) := rfl
            have q9 := jh (i + 1) (by omega) (by omega)
            rw [ej] at q9
            first
              | (rw [if_pos h127] at q9; exact v_fgt2 q9 (fgt_c (Or.inr rfl) (fgt_c (Or.inr rfl) (fgt_c (Or.inl rfl) (fgt_c (Or.inl rfl) (fgt_c (Or.inr rfl) (fgt_c (Or.inl rfl) (fgt_n))))))))
              | (rw [if_neg h127, show (apU p (up I 508 6 (tAp I p)) i 508 8).toNat = m by rw [hm]; rfl] at q9; exact v_fgt2 q9 (fgt_c (Or.inr rfl) (fgt_c (Or.inr rfl) (fgt_c (Or.inl rfl) (fgt_c (Or.inl rfl) (fgt_c (Or.inr rfl) (fgt_c (Or.inl rfl) (fgt_n))))))))
          · have pl := ap_len p (up I 508 6 (tAp I p)) i
            rw [up_nk (by omega)] at pl
            have cu := cn_up p (i + 1) (3 - i)
            rw [show i + 1 + (3 - i) = 4 by omega, show cnF p (i + 1) = cnF p i + 1 from if_neg h127] at cu
            have cr := cn_rng p i
            obtain ⟨m, hm⟩ := Int.eq_ofNat_of_zero_le (show 0 ≤ apU p (up I 508 6 (tAp I p)) i 508 8 by omega)
            have hm6 : m < 60 := by omega
            refine v_aload_n dX9_append_130 rfl ?_
            refine v_getr dX9_append_131 fr_X9_22 (by assumption) (by decide) rfl (by assumption) ?_
            refine v_aload_n dX9_append_134 rfl ?_
            refine v_geti dX9_append_135 fr_X9_142 (by assumption) (by decide) rfl ?_
            refine v_iload dX9_append_138 rfl ?_
            refine v_iast (j := m) dX9_append_140 (by assumption) (by omega) (by omega) ?_
            refine v_aload_n dX9_append_141 rfl ?_
            refine v_dup dX9_append_142 rfl ?_
            refine v_geti dX9_append_143 fr_X9_142 (by assumption) (by decide) rfl ?_
            rw [up_ne (by omega)]
            refine v_iconst dX9_append_146 ?_
            refine v_iadd dX9_append_147 ?_
            refine v_puti dX9_append_148 fr_X9_142 (by assumption) (by decide) rfl ?_
            refine v_iinc4 dX9_append_151 rfl ?_
            rw [show (24 - 8 * (i : Int)) + -8 = 24 - 8 * ((i + 1 : Nat) : Int) by omega]
            refine v_goto (tgt := 110) dX9_append_154 (by decide) ?_
            have ej : apU p (up I 508 6 (tAp I p)) (i + 1) = if sgF p i = 0 then apU p (up I 508 6 (tAp I p)) i else up (up (apU p (up I 508 6 (tAp I p)) i) 513 (apU p (up I 508 6 (tAp I p)) i 508 8).toNat (sgF p i)) 508 8 (apU p (up I 508 6 (tAp I p)) i 508 8 + 1) := rfl
            have q9 := jh (i + 1) (by omega) (by omega)
            rw [ej] at q9
            first
              | (rw [if_pos h127] at q9; exact v_fgt2 q9 (fgt_c (Or.inr rfl) (fgt_c (Or.inr rfl) (fgt_c (Or.inl rfl) (fgt_c (Or.inl rfl) (fgt_c (Or.inr rfl) (fgt_c (Or.inl rfl) (fgt_n))))))))
              | (rw [if_neg h127, show (apU p (up I 508 6 (tAp I p)) i 508 8).toNat = m by rw [hm]; rfl] at q9; exact v_fgt2 q9 (fgt_c (Or.inr rfl) (fgt_c (Or.inr rfl) (fgt_c (Or.inl rfl) (fgt_c (Or.inl rfl) (fgt_c (Or.inr rfl) (fgt_c (Or.inl rfl) (fgt_n))))))))
      exact v_fgt2 (L2 0 (Nat.zero_le _)) (fgt_c (Or.inr rfl) (fgt_c (Or.inr rfl) (fgt_c (Or.inl rfl) (fgt_c (Or.inl rfl) (fgt_c (Or.inr rfl) (fgt_c (Or.inl rfl) (fgt_n)))))))
    · refine v_iconst dX9_append_104 ?_
      exact v_iE dX9_append_105 rfl (by unfold apM; rw [if_neg (by omega)]) (by unfold apM; rw [if_neg (by omega)])
  refine v_startE hfl rfl (by decide) (Nat.le_of_ble_eq_true rfl) (ls := [some (.ref 508), some (.int (ii p)), none, none, none, none]) rfl ?_
  refine v_iconst dX9_append_0 ?_
  refine v_istn2 dX9_append_1 rfl ?_
  refine v_iconst dX9_append_2 ?_
  refine v_istn3 dX9_append_3 rfl ?_
  refine v_bipush dX9_append_4 (by decide) ?_
  refine v_ist4 dX9_append_6 rfl ?_
  have L : ∀ i : Nat, i ≤ 4 → V l g mX9_append 1 (Zm g (QE (some (.int (ii (apM I p).1))) S (apM I p).2 X)) 0 0 8 [some (.ref 508), some (.int (ii p)), some (.int (ii (cnF p i))), some (.int (ii (1 - bdF p i))), some (.int (ii (24 - 8 * (i : Int)))), none] [] S I X := by
    refine loop_up fun i hi ih => ?_
    refine v_iload dX9_append_8 rfl ?_
    have cr := cn_rng p i
    have bd := bd_01 p i
    have ec : cnF p (i + 1) = if sgF p i = 0 then cnF p i else cnF p i + 1 := rfl
    have eb : bdF p (i + 1) = if bdF p i = 1 ∨ bdS (sgF p i) then 1 else 0 := rfl
    refine v_if_lt (tgt := 69) dX9_append_10 (by decide) (fun h10 => ?_) (fun h10 => ?_)
    · obtain rfl : i = 4 := by omega
      have cr := cn_rng p 4
      have bd := bd_01 p 4
      refine v_aload_n dX9_append_69 rfl ?_
      refine v_iload_n dX9_append_70 rfl ?_
      refine v_if_ne (tgt := 78) dX9_append_71 (by decide) (fun h71 => ?_) (fun h71 => ?_)
      · refine v_aload_n dX9_append_78 rfl ?_
        refine v_geti dX9_append_79 fr_X9_142 (by assumption) (by decide) rfl ?_
        refine v_iload_n dX9_append_82 rfl ?_
        refine v_iadd dX9_append_83 ?_
        refine v_bipush dX9_append_84 (by decide) ?_
        refine v_ic_le (tgt := 93) dX9_append_86 (by decide) (fun h86 => ?_) (fun h86 => ?_)
        · refine v_iconst dX9_append_93 ?_
          exact v_fgt2 (M94 _ (by unfold tAp; (repeat (first | rw [if_pos (by omega)] | rw [if_neg (by omega)])))) (fgt_c (Or.inr rfl) (fgt_c (Or.inr rfl) (fgt_c (Or.inl rfl) (fgt_c (Or.inl rfl) (fgt_c (Or.inr rfl) (fgt_c (Or.inl rfl) (fgt_n)))))))
        · refine v_iconst dX9_append_89 ?_
          refine v_goto (tgt := 94) dX9_append_90 (by decide) ?_
          exact v_fgt2 (M94 _ (by unfold tAp; (repeat (first | rw [if_pos (by omega)] | rw [if_neg (by omega)])))) (fgt_c (Or.inr rfl) (fgt_c (Or.inr rfl) (fgt_c (Or.inl rfl) (fgt_c (Or.inl rfl) (fgt_c (Or.inr rfl) (fgt_c (Or.inl rfl) (fgt_n)))))))
      · refine v_iconst dX9_append_74 ?_
        refine v_goto (tgt := 94) dX9_append_75 (by decide) ?_
        exact v_fgt2 (M94 _ (by unfold tAp; (repeat (first | rw [if_pos (by omega)] | rw [if_neg (by omega)])))) (fgt_c (Or.inr rfl) (fgt_c (Or.inr rfl) (fgt_c (Or.inl rfl) (fgt_c (Or.inl rfl) (fgt_c (Or.inr rfl) (fgt_c (Or.inl rfl) (fgt_n)))))))
    · refine v_iload_n dX9_append_13 rfl ?_
      refine v_iload dX9_append_14 rfl ?_
      refine v_iushr (z := usF p i) dX9_append_16 (ii_of _).symm ?_
      refine v_sipush dX9_append_17 (by decide) ?_
      refine v_iand (z := sgF p i) dX9_append_20 (ii_of _).symm ?_
      have s1 : 0 ≤ sgF p i ∧ sgF p i ≤ 255 := and255 _
      refine v_ist5 dX9_append_21 rfl ?_
      have M49 : ∀ (y : Int) (x3 : Option Value), y = 1 - bdF p (i + 1) → V l g mX9_append 1 (Zm g (QE (some (.int (ii (apM I p).1))) S (apM I p).2 X)) 0 0 49 [some (.ref 508), some (.int (ii p)), some (.int (ii (cnF p i))), x3, some (.int (ii (24 - 8 * (i : Int)))), some (.int (ii (sgF p i)))] [.int (ii y)] S I X := by
        intro y x3 hy
        subst hy
        refine v_istn3 dX9_append_49 rfl ?_
        refine v_iload_n dX9_append_50 rfl ?_
        refine v_iload dX9_append_51 rfl ?_
        refine v_if_eq (tgt := 60) dX9_append_53 (by decide) (fun h53 => ?_) (fun h53 => ?_)
        · refine v_iconst dX9_append_60 ?_
          refine v_iadd dX9_append_61 ?_
          refine v_istn2 dX9_append_62 rfl ?_
          refine v_iinc4 dX9_append_63 rfl ?_
          rw [show (24 - 8 * (i : Int)) + -8 = 24 - 8 * ((i + 1 : Nat) : Int) by omega]
          refine v_goto (tgt := 8) dX9_append_66 (by decide) ?_
          have q9 := ih (i + 1) (by omega) (by omega)
          rw [ec] at q9
          first
            | (rw [if_pos (by omega)] at q9; rw [Int.add_zero]; exact v_fgt2 q9 (fgt_c (Or.inr rfl) (fgt_c (Or.inr rfl) (fgt_c (Or.inr rfl) (fgt_c (Or.inr rfl) (fgt_c (Or.inr rfl) (fgt_c (Or.inl rfl) (fgt_n))))))))
            | (rw [if_neg (by omega)] at q9; exact v_fgt2 q9 (fgt_c (Or.inr rfl) (fgt_c (Or.inr rfl) (fgt_c (Or.inr rfl) (fgt_c (Or.inr rfl) (fgt_c (Or.inr rfl) (fgt_c (Or.inl rfl) (fgt_n))))))))
        · refine v_iconst dX9_append_56 ?_
          refine v_goto (tgt := 61) dX9_append_57 (by decide) ?_
          refine v_iadd dX9_append_61 ?_
          refine v_istn2 dX9_append_62 rfl ?_
          refine v_iinc4 dX9_append_63 rfl ?_
          rw [show (24 - 8 * (i : Int)) + -8 = 24 - 8 * ((i + 1 : Nat) : Int) by omega]
          refine v_goto (tgt := 8) dX9_append_66 (by decide) ?_
          have q9 := ih (i + 1) (by omega) (by omega)
          rw [ec] at q9
          first
            | (rw [if_pos (by omega)] at q9; rw [Int.add_zero]; exact v_fgt2 q9 (fgt_c (Or.inr rfl) (fgt_c (Or.inr rfl) (fgt_c (Or.inr rfl) (fgt_c (Or.inr rfl) (fgt_c (Or.inr rfl) (fgt_c (Or.inl rfl) (fgt_n))))))))
            | (rw [if_neg (by omega)] at q9; exact v_fgt2 q9 (fgt_c (Or.inr rfl) (fgt_c (Or.inr rfl) (fgt_c (Or.inr rfl) (fgt_c (Or.inr rfl) (fgt_c (Or.inr rfl) (fgt_c (Or.inl rfl) (fgt_n))))))))
      refine v_iload_n dX9_append_23 rfl ?_
      refine v_if_eq (tgt := 48) dX9_append_24 (by decide) (fun h24 => ?_) (fun h24 => ?_)
      · refine v_iconst dX9_append_48 ?_
        exact M49 _ _ (by rw [eb]; unfold bdS; first | (rw [if_pos (by omega)]; omega) | (rw [if_neg (by omega)]; omega))
      · refine v_iload dX9_append_27 rfl ?_
        refine v_if_eq (tgt := 44) dX9_append_29 (by decide) (fun h29 => ?_) (fun h29 => ?_)
        · refine v_iconst dX9_append_44 ?_
          refine v_goto (tgt := 49) dX9_append_45 (by decide) ?_
          exact M49 _ _ (by rw [eb]; unfold bdS; first | (rw [if_pos (by omega)]; omega) | (rw [if_neg (by omega)]; omega))
        · refine v_iload dX9_append_32 rfl ?_
          refine v_bipush dX9_append_34 (by decide) ?_
          refine v_bipush dX9_append_36 (by decide) ?_
          refine v_cS3 dX9_append_38 lk_X9_118 (k_in hfl (by omega) (by omega) (by omega)) (by decide) (Nat.le_of_ble_eq_true rfl) ?_ rfl
          have hi := inF_01 (sgF p i) 33 126
          have hi1 := @inF_1 (sgF p i) 33 126
          refine v_if_eq (tgt := 48) dX9_append_41 (by decide) (fun h41 => ?_) (fun h41 => ?_)
          · refine v_iconst dX9_append_48 ?_
            exact M49 _ _ (by rw [eb]; unfold bdS; first | (rw [if_pos (by omega)]; omega) | (rw [if_neg (by omega)]; omega))
          · refine v_iconst dX9_append_44 ?_
            refine v_goto (tgt := 49) dX9_append_45 (by decide) ?_
            exact M49 _ _ (by rw [eb]; unfold bdS; first | (rw [if_pos (by omega)]; omega) | (rw [if_neg (by omega)]; omega))
  exact v_fgt2 (L 0 (Nat.zero_le _)) (fgt_c (Or.inr rfl) (fgt_c (Or.inr rfl) (fgt_c (Or.inr rfl) (fgt_c (Or.inr rfl) (fgt_c (Or.inr rfl) (fgt_c (Or.inl rfl) (fgt_n)))))))
