/-! THE MODEL: its public methods that count -/
/-- after a count -/
def KO (K : II) : Prop := MI K ∧ (0 ≤ K 508 15 ∧ K 508 15 ≤ 9) ∧ 0 ≤ K 508 32 ∧ K 508 32 ≤ 8
def tVt (K : II) (z c : Int) : Int := if inF z 0 (K 508 15 - 1) = 0 ∨ inF c 0 (K 509 0 - 1) = 0 then 1 else 0
def vtM (K : II) (z c : Int) : Int × II := (if tVt K z c ≤ 0 then mVt K z.toNat c.toNat else 0, up K 508 6 (tVt K z c))
def tRd (K : II) (z w : Int) : Int := if inF z 0 (K 508 15 - 1) = 0 then 1 else if inF w 0 6 = 0 then 2 else 0
def rdM (K : II) (z w : Int) : Int × II := (if tRd K z w ≤ 0 then K (516 + w.toNat) z.toNat else 0, up K 508 6 (tRd K z w))
def tCd (I : II) (c w : Int) : Int := if inF c 0 (I 509 0 - 1) = 0 then 1 else if inF w 0 5 = 0 then 2 else 0
def cdM (K : II) (c w : Int) : Int := if w = 5 then mVt K (K 508 15 - 1).toNat c.toNat else K (525 + w.toNat) c.toNat
def tEl (K : II) (z : Int) : Int := if inF z 0 (K 508 32 - 1) = 0 then 1 else 0
def edM (K : II) (z : Int) : Int × II := (if tEl K z ≤ 0 then K 530 z.toNat else 0, up K 508 6 (tEl K z))
def tWh (K : II) (z p w : Int) : Int := if inF z 0 (K 508 15 - 1) = 0 ∨ inF p 0 (K 509 1 - 1) = 0 then 1 else if inF w 0 1 = 0 then 2 else 0
def whM (K : II) (z p w : Int) : Int × II := (if tWh K z p w ≤ 0 then (if w = 0 then K 523 (25 * z.toNat + p.toNat) else K 524 (25 * z.toNat + p.toNat)) else 0, up K 508 6 (tWh K z p w))
def tSh (K : II) (z c : Int) : Int := if inF z 0 (K 508 15 - 1) = 0 ∨ inF c 0 (K 509 0 - 1) = 0 then 1 else if mPs K = 0 then 2 else 0
def shM (K : II) (z c : Int) : UInt32 := if tSh K z c ≤ 0 then FP.fdiv (FP.i2f (ii (mVt K z.toNat c.toNat))) (FP.i2f (ii (mPs K * 10000))) else FP.fconst0
def deM (K : II) : II := cpy (cpy (cpy (up (up (up K 508 43 1) 508 44 (K 508 15)) 508 45 (K 508 32)) 515 537 0 0 192) 525 538 0 0 8) 530 539 0 0 8
def dsM (J : II) : Nat → Int
  | 0 => 0
  | c + 1 => dsM J c + if J 525 c = J 538 c then 0 else 1
def dwM (J : II) : Nat → Nat → Nat
  | 0, k => k
  | f + 1, k => if J 530 k = J 539 k then dwM J f (k + 1) else k
def bwM (J : II) : Nat := (mnI (J 508 32) (J 508 45)).toNat
def dwA (J : II) : Int := if dwM J (bwM J) 0 < bwM J ∨ ¬ J 508 32 = J 508 45 then dwM J (bwM J) 0 else -1
def brM (J : II) : Nat := (mnI (J 508 15) (J 508 44)).toNat
def drM (J : II) : Nat → Nat → Int
  | 0, _ => if J 508 15 = J 508 44 then -1 else brM J
  | f + 1, k => if J 515 k = J 537 k then drM J f (k + 1) else (k / 8 : Nat)
def tRc (I : II) (w : Int) : Int := if inF w 0 2 = 0 then 1 else if I 508 43 = 0 then 2 else 0
def rcM (K : II) (w : Int) : Int := if w = 0 then dsM K (K 509 0).toNat else if w = 1 then dwA K else drM K (8 * brM K) 0
/-- what is declared is well formed -/
def DO (K : II) : Prop := (0 ≤ K 508 44 ∧ K 508 44 ≤ 9) ∧ 0 ≤ K 508 45 ∧ K 508 45 ≤ 8
def nmL (p c : Nat) : Nat → Nat → II → Option (Int × II)
  | 0, _, J => some (-1, J)
  | f + 1, z, J => (cnO (up J 509 (15 + 10 * p) z)).bind (fun K => if K 525 c = 1 then some ((z : Int), K) else nmL p c f (z + 1) K)
def nmB (J : II) (p c : Nat) : II := up (up (up J 509 1 (J 509 1 + 1)) 509 (16 + 10 * p) 1) 509 (17 + 10 * p) c
def nmE (K : II) : II := up (up K 509 1 (K 509 1 - 1)) 508 14 0
def tUn (J : II) : Int := if J 508 3 = 0 then 1 else 0
def unA (J : II) : II := up (up J 508 6 0) 508 3 (J 508 3 - 1)
def unM (J : II) : Int × II := if tUn J ≤ 0 then (J 508 3 - 1, up (cpy (unA J) 511 509 (265 * (J 508 3 - 1).toNat) 0 265) 508 14 0) else (0, up J 508 6 (tUn J))
def svA (J : II) : II := cpy (up (up J 508 6 0) 508 5 1) 509 512 0 0 265
def svB (J : II) : II := up (up (up (svA J) 540 0 (if J 508 43 = 0 then 0 else 1)) 540 1 (J 508 44)) 540 2 (J 508 45)
def svM9 (J : II) : II := cpy (cpy (cpy (svB J) 537 540 0 3 192) 538 540 0 195 8) 539 540 0 203 8
def tRs (J : II) : Int := if J 508 5 = 0 then 1 else 0
def rsA (J : II) : II := cpy (up J 508 6 0) 512 509 0 0 265
def rsB (J : II) : II := up (up (up (rsA J) 508 43 (if J 540 0 = 1 then 1 else 0)) 508 44 (J 540 1)) 508 45 (J 540 2)
def rsC (J : II) : II := cpy (cpy (cpy (rsB J) 540 537 3 0 192) 540 538 195 0 8) 540 539 203 0 8
def rsM9 (J : II) : Int × II := if tRs J ≤ 0 then (rsC J 509 1, up (up (rsC J) 508 3 0) 508 14 0) else (0, up J 508 6 (tRs J))
def tKn (J : II) (w : Int) : Int := if inF w 0 6 = 0 ∧ inF w 10 13 = 0 ∧ (w < 20 ∨ J 509 0 ≤ w - 20) then 1 else 0
def knA (J : II) (w : Int) : Int := if w = 0 then J 509 0 else if w = 1 then J 509 1 else if w = 2 then mPs J else if w = 4 then (pop8 (J 509 2).toNat : Nat) else if w = 5 then J 508 3 else if w = 6 then J 508 8 else if w < 20 then J 509 (3 + (w - 10).toNat) else J 509 (7 + (w - 20).toNat)
theorem mPs_s {J K : II} (h : K 509 = J 509) : mPs K = mPs J := by
  unfold mPs
  have : mSz K = mSz J := by funext p; unfold mSz; rw [h]
  rw [this, h]

set_option maxRecDepth 100000 in
set_option maxHeartbeats 4000000 in
theorem k_rounds {l : Launch} {g : GV} {S : SS} {I : II} {X : XX} {K : II} (hfl : l.stackTraces = false) (hM : isMod S) (hMI : MI I) (hK : knO (up I 508 6 0) = some K) : CE l g mX9_rounds 7 [.ref 508] S I X (some (.int (ii (K 508 15)))) K := by
  obtain ⟨m0, ⟨p509, q509⟩, ⟨p510, q510⟩, ⟨p511, q511⟩, ⟨p512, q512⟩, ⟨p513, q513⟩, ⟨p514, q514⟩, ⟨p515, q515⟩, ⟨p516, q516⟩, ⟨p517, q517⟩, ⟨p518, q518⟩, ⟨p519, q519⟩, ⟨p520, q520⟩, ⟨p521, q521⟩, ⟨p522, q522⟩, ⟨p523, q523⟩, ⟨p524, q524⟩, ⟨p525, q525⟩, ⟨p526, q526⟩, ⟨p527, q527⟩, ⟨p528, q528⟩, ⟨p529, q529⟩, ⟨p530, q530⟩, ⟨p531, q531⟩, ⟨p532, q532⟩, ⟨p533, q533⟩, ⟨p534, q534⟩, ⟨p535, q535⟩, ⟨p536, q536⟩, ⟨p537, q537⟩, ⟨p538, q538⟩, ⟨p539, q539⟩, ⟨p540, q540⟩⟩ := id hM
  refine v_startE hfl rfl (by decide) (Nat.le_of_ble_eq_true rfl) (ls := [some (.ref 508)]) rfl ?_
  refine v_aload_n dX9_rounds_0 rfl ?_
  refine v_iconst dX9_rounds_1 ?_
  refine v_puti dX9_rounds_2 fr_X9_115 (by assumption) (by decide) rfl ?_
  refine v_aload_n dX9_rounds_5 rfl ?_
  refine v_cV0n dX9_rounds_6 lk_X9_294 (by assumption) (by decide) rfl (k_know hfl hM (MI_up hMI (by omega) (by omega)) hK) (by decide) (Nat.le_of_ble_eq_true rfl) ?_ rfl
  refine v_aload_n dX9_rounds_9 rfl ?_
  refine v_geti dX9_rounds_10 fr_X9_212 (by assumption) (by decide) rfl ?_
  exact v_iE dX9_rounds_13 rfl (rfl) (rfl)

set_option maxRecDepth 100000 in
set_option maxHeartbeats 4000000 in
theorem k_isRound {l : Launch} {g : GV} {S : SS} {I : II} {X : XX} {K : II} {z : Int} (hfl : l.stackTraces = false) (hM : isMod S) (hMI : MI I) (hK : knO I = some K) (hO : KO K) (hz : -2147483648 ≤ z ∧ z < 2147483648) : CE l g mX9_isRound 7 [.ref 508, .int (ii z)] S I X (some (.int (ii (inF z 0 (K 508 15 - 1))))) K := by
  obtain ⟨m0, ⟨p509, q509⟩, ⟨p510, q510⟩, ⟨p511, q511⟩, ⟨p512, q512⟩, ⟨p513, q513⟩, ⟨p514, q514⟩, ⟨p515, q515⟩, ⟨p516, q516⟩, ⟨p517, q517⟩, ⟨p518, q518⟩, ⟨p519, q519⟩, ⟨p520, q520⟩, ⟨p521, q521⟩, ⟨p522, q522⟩, ⟨p523, q523⟩, ⟨p524, q524⟩, ⟨p525, q525⟩, ⟨p526, q526⟩, ⟨p527, q527⟩, ⟨p528, q528⟩, ⟨p529, q529⟩, ⟨p530, q530⟩, ⟨p531, q531⟩, ⟨p532, q532⟩, ⟨p533, q533⟩, ⟨p534, q534⟩, ⟨p535, q535⟩, ⟨p536, q536⟩, ⟨p537, q537⟩, ⟨p538, q538⟩, ⟨p539, q539⟩, ⟨p540, q540⟩⟩ := id hM
  obtain ⟨o1, o2, o3⟩ := id hO
  obtain ⟨k0, k1, k2, k3, k4, k5, k6, k7, k8, k9, k10⟩ := id o1.1
  refine v_startE hfl rfl (by decide) (Nat.le_of_ble_eq_true rfl) (ls := [some (.ref 508), some (.int (ii z))]) rfl ?_
  refine v_aload_n dX9_isRound_0 rfl ?_
  refine v_cV0n dX9_isRound_1 lk_X9_294 (by assumption) (by decide) rfl (k_know hfl hM hMI hK) (by decide) (Nat.le_of_ble_eq_true rfl) ?_ rfl
  refine v_iload_n dX9_isRound_4 rfl ?_
  refine v_iconst dX9_isRound_5 ?_
  refine v_aload_n dX9_isRound_6 rfl ?_
  refine v_geti dX9_isRound_7 fr_X9_212 (by assumption) (by decide) rfl ?_
  refine v_iconst dX9_isRound_10 ?_
  refine v_isub dX9_isRound_11 ?_
  refine v_cS3 dX9_isRound_12 lk_X9_118 (k_in hfl hz (by omega) (by omega)) (by decide) (Nat.le_of_ble_eq_true rfl) ?_ rfl
  have hi := inF_01 z 0 (K 508 15 - 1)
  exact v_zE dX9_isRound_15 rfl (by first | exact Or.inl rfl | exact Or.inr rfl | omega) (rfl) (rfl)

set_option maxRecDepth 100000 in
set_option maxHeartbeats 4000000 in
theorem k_votes {l : Launch} {g : GV} {S : SS} {I : II} {X : XX} {K : II} {z c : Int} (hfl : l.stackTraces = false) (hM : isMod S) (hMI : MI I) (hK : knO I = some K) (hO : KO K) (hz : -2147483648 ≤ z ∧ z < 2147483648) (hc : -2147483648 ≤ c ∧ c < 2147483648) : CE l g mX9_votes 8 [.ref 508, .int (ii z), .int (ii c)] S I X (some (.int (ii (vtM K z c).1))) (vtM K z c).2 := by
  obtain ⟨m0, ⟨p509, q509⟩, ⟨p510, q510⟩, ⟨p511, q511⟩, ⟨p512, q512⟩, ⟨p513, q513⟩, ⟨p514, q514⟩, ⟨p515, q515⟩, ⟨p516, q516⟩, ⟨p517, q517⟩, ⟨p518, q518⟩, ⟨p519, q519⟩, ⟨p520, q520⟩, ⟨p521, q521⟩, ⟨p522, q522⟩, ⟨p523, q523⟩, ⟨p524, q524⟩, ⟨p525, q525⟩, ⟨p526, q526⟩, ⟨p527, q527⟩, ⟨p528, q528⟩, ⟨p529, q529⟩, ⟨p530, q530⟩, ⟨p531, q531⟩, ⟨p532, q532⟩, ⟨p533, q533⟩, ⟨p534, q534⟩, ⟨p535, q535⟩, ⟨p536, q536⟩, ⟨p537, q537⟩, ⟨p538, q538⟩, ⟨p539, q539⟩, ⟨p540, q540⟩⟩ := id hM
  obtain ⟨o1, o2, o3⟩ := id hO
  obtain ⟨k0, k1, k2, k3, k4, k5, k6, k7, k8, k9, k10⟩ := id o1.1
  have Mt : ∀ T : Int, T = tVt K z c → V l g mX9_votes 8 (Zm g (QE (some (.int (ii (vtM K z c).1))) S (vtM K z c).2 X)) 0 0 22 [some (.ref 508), some (.int (ii z)), some (.int (ii c))] [.int (ii T), .ref 508] S K X := by
    intro T hTf
    subst hTf
    refine v_puti dX9_votes_22 fr_X9_115 (by assumption) (by decide) rfl ?_
    refine v_aload_n dX9_votes_25 rfl ?_
    refine v_geti dX9_votes_26 fr_X9_115 (by assumption) (by decide) rfl ?_
    rw [up_eq]
    have t01 : tVt K z c = 0 ∨ tVt K z c = 1 := by unfold tVt; split <;> omega
    refine v_if_le (tgt := 36) dX9_votes_29 (by decide) (fun h29 => ?_) (fun h29 => ?_)
    · have hc1 : ¬ (inF z 0 (K 508 15 - 1) = 0 ∨ inF c 0 (K 509 0 - 1) = 0) := fun hc => by
        have : tVt K z c = 1 := if_pos hc
        omega
      have hz1 := inF_1.mp (fun e => hc1 (Or.inl e))
      have hz2 := inF_1.mp (fun e => hc1 (Or.inr e))
      obtain ⟨r, rfl⟩ := Int.eq_ofNat_of_zero_le hz1.1
      obtain ⟨q, rfl⟩ := Int.eq_ofNat_of_zero_le hz2.1
      refine v_aload_n dX9_votes_36 rfl ?_
      refine v_iload_n dX9_votes_37 rfl ?_
      refine v_iload_n dX9_votes_38 rfl ?_
      refine v_cV2 dX9_votes_39 lk_X9_231 (by assumption) (by decide) rfl (k_votesIn hfl hM (by omega) (by omega)) (by decide) (Nat.le_of_ble_eq_true rfl) ?_ rfl
      first
        | exact v_iE dX9_votes_42 rfl (by unfold vtM; rw [if_neg (by omega)]) rfl
        | (rw [up_ne (by omega)]
           exact v_iE dX9_votes_42 rfl (by unfold vtM; rw [if_pos (by omega)]; rfl) rfl)
    · refine v_iconst dX9_votes_32 ?_
      refine v_goto (tgt := 42) dX9_votes_33 (by decide) ?_
      first
        | exact v_iE dX9_votes_42 rfl (by unfold vtM; rw [if_neg (by omega)]) rfl
        | (rw [up_ne (by omega)]
           exact v_iE dX9_votes_42 rfl (by unfold vtM; rw [if_pos (by omega)]; rfl) rfl)
  refine v_startE hfl rfl (by decide) (Nat.le_of_ble_eq_true rfl) (ls := [some (.ref 508), some (.int (ii z)), some (.int (ii c))]) rfl ?_
  refine v_aload_n dX9_votes_0 rfl ?_
  refine v_aload_n dX9_votes_1 rfl ?_
  refine v_iload_n dX9_votes_2 rfl ?_
  refine v_cV1 dX9_votes_3 lk_X9_297 (by assumption) (by decide) rfl (k_isRound hfl hM hMI hK hO hz) (by decide) (Nat.le_of_ble_eq_true rfl) ?_ rfl
  have hi := inF_01 z 0 (K 508 15 - 1)
  refine v_if_eq (tgt := 21) dX9_votes_6 (by decide) (fun h6 => ?_) (fun h6 => ?_)
  · refine v_iconst dX9_votes_21 ?_
    exact Mt _ (by unfold tVt; (repeat (first | rw [if_pos (by omega)] | rw [if_neg (by omega)])))
  · refine v_aload_n dX9_votes_9 rfl ?_
    refine v_iload_n dX9_votes_10 rfl ?_
    refine v_cV1 dX9_votes_11 lk_X9_168 (by assumption) (by decide) rfl (k_isCand hfl hM o1.1 (by omega)) (by decide) (Nat.le_of_ble_eq_true rfl) ?_ rfl
    have hj := inF_01 c 0 (K 509 0 - 1)
    refine v_if_eq (tgt := 21) dX9_votes_14 (by decide) (fun h14 => ?_) (fun h14 => ?_)
    · refine v_iconst dX9_votes_21 ?_
      exact Mt _ (by unfold tVt; (repeat (first | rw [if_pos (by omega)] | rw [if_neg (by omega)])))
    · refine v_iconst dX9_votes_17 ?_
      refine v_goto (tgt := 22) dX9_votes_18 (by decide) ?_
      exact Mt _ (by unfold tVt; (repeat (first | rw [if_pos (by omega)] | rw [if_neg (by omega)])))

set_option maxRecDepth 100000 in
set_option maxHeartbeats 4000000 in
theorem k_round {l : Launch} {g : GV} {S : SS} {I : II} {X : XX} {K : II} {z w : Int} (hfl : l.stackTraces = false) (hM : isMod S) (hMI : MI I) (hK : knO I = some K) (hO : KO K) (hz : -2147483648 ≤ z ∧ z < 2147483648) (hw : -2147483648 ≤ w ∧ w < 2147483648) : CE l g mX9_round 8 [.ref 508, .int (ii z), .int (ii w)] S I X (some (.int (ii (rdM K z w).1))) (rdM K z w).2 := by
  obtain ⟨m0, ⟨p509, q509⟩, ⟨p510, q510⟩, ⟨p511, q511⟩, ⟨p512, q512⟩, ⟨p513, q513⟩, ⟨p514, q514⟩, ⟨p515, q515⟩, ⟨p516, q516⟩, ⟨p517, q517⟩, ⟨p518, q518⟩, ⟨p519, q519⟩, ⟨p520, q520⟩, ⟨p521, q521⟩, ⟨p522, q522⟩, ⟨p523, q523⟩, ⟨p524, q524⟩, ⟨p525, q525⟩, ⟨p526, q526⟩, ⟨p527, q527⟩, ⟨p528, q528⟩, ⟨p529, q529⟩, ⟨p530, q530⟩, ⟨p531, q531⟩, ⟨p532, q532⟩, ⟨p533, q533⟩, ⟨p534, q534⟩, ⟨p535, q535⟩, ⟨p536, q536⟩, ⟨p537, q537⟩, ⟨p538, q538⟩, ⟨p539, q539⟩, ⟨p540, q540⟩⟩ := id hM
  obtain ⟨o1, o2, o3⟩ := id hO
  obtain ⟨k0, k1, k2, k3, k4, k5, k6, k7, k8, k9, k10⟩ := id o1.1
  have Mt : ∀ T : Int, T = tRd K z w → V l g mX9_round 8 (Zm g (QE (some (.int (ii (rdM K z w).1))) S (rdM K z w).2 X)) 0 0 28 [some (.ref 508), some (.int (ii z)), some (.int (ii w))] [.int (ii T), .ref 508] S K X := by
    intro T hTf
    subst hTf
    refine v_puti dX9_round_28 fr_X9_115 (by assumption) (by decide) rfl ?_
    refine v_aload_n dX9_round_31 rfl ?_
    refine v_geti dX9_round_32 fr_X9_115 (by assumption) (by decide) rfl ?_
    rw [up_eq]
    have t01 : tRd K z w = 0 ∨ tRd K z w = 1 ∨ tRd K z w = 2 := by unfold tRd; split <;> (try split) <;> omega
    refine v_if_le (tgt := 40) dX9_round_35 (by decide) (fun h35 => ?_) (fun h35 => ?_)
    · have hc1 : ¬ inF z 0 (K 508 15 - 1) = 0 := fun hc => by
        have : tRd K z w = 1 := if_pos hc
        omega
      have hc2 : ¬ inF w 0 6 = 0 := fun hc => by
        have : tRd K z w = 2 := by unfold tRd; rw [if_neg hc1, if_pos hc]
        omega
      have hz1 := inF_1.mp hc1
      have hz2 := inF_1.mp hc2
      obtain ⟨r, rfl⟩ := Int.eq_ofNat_of_zero_le hz1.1
      refine v_iload_n dX9_round_40 rfl ?_
      have hw7 : w = 0 ∨ w = 1 ∨ w = 2 ∨ w = 3 ∨ w = 4 ∨ w = 5 ∨ w = 6 := by omega
      rcases hw7 with rfl | rfl | rfl | rfl | rfl | rfl | rfl
      · refine v_tabIn (off := 39) (tgt := 80) dX9_round_41 (by omega) (by omega) rfl (by decide) ?_
        refine v_aload_n dX9_round_80 rfl ?_
        refine v_getr dX9_round_81 fr_X9_35 (by assumption) (by decide) rfl (by assumption) ?_
        refine v_iload_n dX9_round_84 rfl ?_
        refine v_iald (j := r) dX9_round_85 (by assumption) (by omega) (by omega) ?_
        rw [up_ne (by omega)]
        exact v_iE dX9_round_86 rfl (by unfold rdM; rw [if_pos (by omega)]; rfl) (rfl)
      · refine v_tabIn (off := 46) (tgt := 87) dX9_round_41 (by omega) (by omega) rfl (by decide) ?_
        refine v_aload_n dX9_round_87 rfl ?_
        refine v_getr dX9_round_88 fr_X9_38 (by assumption) (by decide) rfl (by assumption) ?_
        refine v_iload_n dX9_round_91 rfl ?_
        refine v_iald (j := r) dX9_round_92 (by assumption) (by omega) (by omega) ?_
        rw [up_ne (by omega)]
        exact v_iE dX9_round_93 rfl (by unfold rdM; rw [if_pos (by omega)]; rfl) (rfl)
      · refine v_tabIn (off := 53) (tgt := 94) dX9_round_41 (by omega) (by omega) rfl (by decide) ?_
        refine v_aload_n dX9_round_94 rfl ?_
        refine v_getr dX9_round_95 fr_X9_41 (by assumption) (by decide) rfl (by assumption) ?_
        refine v_iload_n dX9_round_98 rfl ?_
        refine v_iald (j := r) dX9_round_99 (by assumption) (by omega) (by omega) ?_
        rw [up_ne (by omega)]
        exact v_iE dX9_round_100 rfl (by unfold rdM; rw [if_pos (by omega)]; rfl) (rfl)
      · refine v_tabIn (off := 60) (tgt := 101) dX9_round_41 (by omega) (by omega) rfl (by decide) ?_
        refine v_aload_n dX9_round_101 rfl ?_
        refine v_getr dX9_round_102 fr_X9_44 (by assumption) (by decide) rfl (by assumption) ?_
        refine v_iload_n dX9_round_105 rfl ?_
        refine v_iald (j := r) dX9_round_106 (by assumption) (by omega) (by omega) ?_
        rw [up_ne (by omega)]
        exact v_iE dX9_round_107 rfl (by unfold rdM; rw [if_pos (by omega)]; rfl) (rfl)
      · refine v_tabIn (off := 67) (tgt := 108) dX9_round_41 (by omega) (by omega) rfl (by decide) ?_
        refine v_aload_n dX9_round_108 rfl ?_
        refine v_getr dX9_round_109 fr_X9_47 (by assumption) (by decide) rfl (by assumption) ?_
        refine v_iload_n dX9_round_112 rfl ?_
        refine v_iald (j := r) dX9_round_113 (by assumption) (by omega) (by omega) ?_
        rw [up_ne (by omega)]
        exact v_iE dX9_round_114 rfl (by unfold rdM; rw [if_pos (by omega)]; rfl) (rfl)
      · refine v_tabIn (off := 74) (tgt := 115) dX9_round_41 (by omega) (by omega) rfl (by decide) ?_
        refine v_aload_n dX9_round_115 rfl ?_
        refine v_getr dX9_round_116 fr_X9_50 (by assumption) (by decide) rfl (by assumption) ?_
        refine v_iload_n dX9_round_119 rfl ?_
        refine v_iald (j := r) dX9_round_120 (by assumption) (by omega) (by omega) ?_
        rw [up_ne (by omega)]
        exact v_iE dX9_round_121 rfl (by unfold rdM; rw [if_pos (by omega)]; rfl) (rfl)
      · refine v_tabOut (tgt := 122) dX9_round_41 (Or.inr (by omega)) (by decide) ?_
        refine v_aload_n dX9_round_122 rfl ?_
        refine v_getr dX9_round_123 fr_X9_53 (by assumption) (by decide) rfl (by assumption) ?_
        refine v_iload_n dX9_round_126 rfl ?_
        refine v_iald (j := r) dX9_round_127 (by assumption) (by omega) (by omega) ?_
        rw [up_ne (by omega)]
        exact v_iE dX9_round_128 rfl (by unfold rdM; rw [if_pos (by omega)]; rfl) (rfl)
    · refine v_iconst dX9_round_38 ?_
      exact v_iE dX9_round_39 rfl (by unfold rdM; rw [if_neg (by omega)]) (rfl)
  refine v_startE hfl rfl (by decide) (Nat.le_of_ble_eq_true rfl) (ls := [some (.ref 508), some (.int (ii z)), some (.int (ii w))]) rfl ?_
  refine v_aload_n dX9_round_0 rfl ?_
  refine v_aload_n dX9_round_1 rfl ?_
  refine v_iload_n dX9_round_2 rfl ?_
  refine v_cV1 dX9_round_3 lk_X9_297 (by assumption) (by decide) rfl (k_isRound hfl hM hMI hK hO hz) (by decide) (Nat.le_of_ble_eq_true rfl) ?_ rfl
  have hi := inF_01 z 0 (K 508 15 - 1)
  refine v_if_ne (tgt := 13) dX9_round_6 (by decide) (fun h6 => ?_) (fun h6 => ?_)
  · refine v_iload_n dX9_round_13 rfl ?_
    refine v_iconst dX9_round_14 ?_
    refine v_bipush dX9_round_15 (by decide) ?_
    refine v_cS3 dX9_round_17 lk_X9_118 (k_in hfl (by omega) (by omega) (by omega)) (by decide) (Nat.le_of_ble_eq_true rfl) ?_ rfl
    have hj := inF_01 w 0 6
    refine v_if_ne (tgt := 27) dX9_round_20 (by decide) (fun h20 => ?_) (fun h20 => ?_)
    · refine v_iconst dX9_round_27 ?_
      exact Mt _ (by unfold tRd; (repeat (first | rw [if_pos (by omega)] | rw [if_neg (by omega)])))
    · refine v_iconst dX9_round_23 ?_
      refine v_goto (tgt := 28) dX9_round_24 (by decide) ?_
      exact Mt _ (by unfold tRd; (repeat (first | rw [if_pos (by omega)] | rw [if_neg (by omega)])))
  · refine v_iconst dX9_round_9 ?_
    refine v_goto (tgt := 28) dX9_round_10 (by decide) ?_
    exact Mt _ (by unfold tRd; (repeat (first | rw [if_pos (by omega)] | rw [if_neg (by omega)])))

/-- after a count there is a round -/
def KO1 (K : II) : Prop := MI K ∧ (1 ≤ K 508 15 ∧ K 508 15 ≤ 9) ∧ 0 ≤ K 508 32 ∧ K 508 32 ≤ 8

set_option maxRecDepth 100000 in
set_option maxHeartbeats 4000000 in
theorem k_candidate {l : Launch} {g : GV} {S : SS} {I : II} {X : XX} {K1 : II} {c w : Int} (hfl : l.stackTraces = false) (hM : isMod S) (hMI : MI I) (hK : tCd I c w = 0 → ∃ K, knO (up I 508 6 0) = some K ∧ KO1 K ∧ K = K1) (hc : -2147483648 ≤ c ∧ c < 2147483648) (hw : -2147483648 ≤ w ∧ w < 2147483648) : CE l g mX9_candidate 8 [.ref 508, .int (ii c), .int (ii w)] S I X (some (.int (ii ((if tCd I c w ≤ 0 then (cdM K1 c w, K1) else (0, up I 508 6 (tCd I c w)))).1))) ((if tCd I c w ≤ 0 then (cdM K1 c w, K1) else (0, up I 508 6 (tCd I c w)))).2 := by
  obtain ⟨m0, ⟨p509, q509⟩, ⟨p510, q510⟩, ⟨p511, q511⟩, ⟨p512, q512⟩, ⟨p513, q513⟩, ⟨p514, q514⟩, ⟨p515, q515⟩, ⟨p516, q516⟩, ⟨p517, q517⟩, ⟨p518, q518⟩, ⟨p519, q519⟩, ⟨p520, q520⟩, ⟨p521, q521⟩, ⟨p522, q522⟩, ⟨p523, q523⟩, ⟨p524, q524⟩, ⟨p525, q525⟩, ⟨p526, q526⟩, ⟨p527, q527⟩, ⟨p528, q528⟩, ⟨p529, q529⟩, ⟨p530, q530⟩, ⟨p531, q531⟩, ⟨p532, q532⟩, ⟨p533, q533⟩, ⟨p534, q534⟩, ⟨p535, q535⟩, ⟨p536, q536⟩, ⟨p537, q537⟩, ⟨p538, q538⟩, ⟨p539, q539⟩, ⟨p540, q540⟩⟩ := id hM
  obtain ⟨w0, w1, w2, w3, w4, w5, w6, w7, w8, w9, w10⟩ := id hMI.1
  have Mt : ∀ T : Int, T = tCd I c w → V l g mX9_candidate 8 (Zm g (QE (some (.int (ii ((if tCd I c w ≤ 0 then (cdM K1 c w, K1) else (0, up I 508 6 (tCd I c w)))).1))) S ((if tCd I c w ≤ 0 then (cdM K1 c w, K1) else (0, up I 508 6 (tCd I c w)))).2 X)) 0 0 27 [some (.ref 508), some (.int (ii c)), some (.int (ii w))] [.int (ii T), .ref 508] S I X := by
    intro T hTf
    subst hTf
    refine v_puti dX9_candidate_27 fr_X9_115 (by assumption) (by decide) rfl ?_
    refine v_aload_n dX9_candidate_30 rfl ?_
    refine v_geti dX9_candidate_31 fr_X9_115 (by assumption) (by decide) rfl ?_
    rw [up_eq]
    have t01 : tCd I c w = 0 ∨ tCd I c w = 1 ∨ tCd I c w = 2 := by unfold tCd; split <;> (try split) <;> omega
    refine v_if_le (tgt := 39) dX9_candidate_34 (by decide) (fun h34 => ?_) (fun h34 => ?_)
    · have hc1 : ¬ inF c 0 (I 509 0 - 1) = 0 := fun hc => by
        have : tCd I c w = 1 := if_pos hc
        omega
      have hc2 : ¬ inF w 0 5 = 0 := fun hc => by
        have : tCd I c w = 2 := by unfold tCd; rw [if_neg hc1, if_pos hc]
        omega
      have hz1 := inF_1.mp hc1
      have hz2 := inF_1.mp hc2
      obtain ⟨q, rfl⟩ := Int.eq_ofNat_of_zero_le hz1.1
      obtain ⟨K, hK9, hO, rfl⟩ := hK (by omega)
      obtain ⟨o1, o2, o3⟩ := id hO
      rw [show tCd I (q : Int) w = 0 by omega]
      refine v_aload_n dX9_candidate_39 rfl ?_
      refine v_cV0n dX9_candidate_40 lk_X9_294 (by assumption) (by decide) rfl (k_know hfl hM (MI_up hMI (by omega) (by omega)) hK9) (by decide) (Nat.le_of_ble_eq_true rfl) ?_ rfl
      refine v_iload_n dX9_candidate_43 rfl ?_
      have hw7 : w = 0 ∨ w = 1 ∨ w = 2 ∨ w = 3 ∨ w = 4 ∨ w = 5 := by omega
      rcases hw7 with rfl | rfl | rfl | rfl | rfl | rfl
      · refine v_tabIn (off := 36) (tgt := 80) dX9_candidate_44 (by omega) (by omega) rfl (by decide) ?_
        refine v_aload_n dX9_candidate_80 rfl ?_
        refine v_getr dX9_candidate_81 fr_X9_62 (by assumption) (by decide) rfl (by assumption) ?_
        refine v_iload_n dX9_candidate_84 rfl ?_
        refine v_iald (j := q) dX9_candidate_85 (by assumption) (by omega) (by omega) ?_
        exact v_iE dX9_candidate_86 rfl (by rw [if_pos (by omega)]; unfold cdM; rw [if_neg (by omega)]; rfl) (by rw [if_pos (by omega)])
      · refine v_tabIn (off := 43) (tgt := 87) dX9_candidate_44 (by omega) (by omega) rfl (by decide) ?_
        refine v_aload_n dX9_candidate_87 rfl ?_
        refine v_getr dX9_candidate_88 fr_X9_65 (by assumption) (by decide) rfl (by assumption) ?_
        refine v_iload_n dX9_candidate_91 rfl ?_
        refine v_iald (j := q) dX9_candidate_92 (by assumption) (by omega) (by omega) ?_
        exact v_iE dX9_candidate_93 rfl (by rw [if_pos (by omega)]; unfold cdM; rw [if_neg (by omega)]; rfl) (by rw [if_pos (by omega)])
      · refine v_tabIn (off := 50) (tgt := 94) dX9_candidate_44 (by omega) (by omega) rfl (by decide) ?_
        refine v_aload_n dX9_candidate_94 rfl ?_
        refine v_getr dX9_candidate_95 fr_X9_68 (by assumption) (by decide) rfl (by assumption) ?_
        refine v_iload_n dX9_candidate_98 rfl ?_
        refine v_iald (j := q) dX9_candidate_99 (by assumption) (by omega) (by omega) ?_
        exact v_iE dX9_candidate_100 rfl (by rw [if_pos (by omega)]; unfold cdM; rw [if_neg (by omega)]; rfl) (by rw [if_pos (by omega)])
      · refine v_tabIn (off := 57) (tgt := 101) dX9_candidate_44 (by omega) (by omega) rfl (by decide) ?_
        refine v_aload_n dX9_candidate_101 rfl ?_
        refine v_getr dX9_candidate_102 fr_X9_71 (by assumption) (by decide) rfl (by assumption) ?_
        refine v_iload_n dX9_candidate_105 rfl ?_
        refine v_iald (j := q) dX9_candidate_106 (by assumption) (by omega) (by omega) ?_
        exact v_iE dX9_candidate_107 rfl (by rw [if_pos (by omega)]; unfold cdM; rw [if_neg (by omega)]; rfl) (by rw [if_pos (by omega)])
      · refine v_tabIn (off := 64) (tgt := 108) dX9_candidate_44 (by omega) (by omega) rfl (by decide) ?_
        refine v_aload_n dX9_candidate_108 rfl ?_
        refine v_getr dX9_candidate_109 fr_X9_74 (by assumption) (by decide) rfl (by assumption) ?_
        refine v_iload_n dX9_candidate_112 rfl ?_
        refine v_iald (j := q) dX9_candidate_113 (by assumption) (by omega) (by omega) ?_
        exact v_iE dX9_candidate_114 rfl (by rw [if_pos (by omega)]; unfold cdM; rw [if_neg (by omega)]; rfl) (by rw [if_pos (by omega)])
      · refine v_tabOut (tgt := 115) dX9_candidate_44 (Or.inr (by omega)) (by decide) ?_
        refine v_aload_n dX9_candidate_115 rfl ?_
        refine v_aload_n dX9_candidate_116 rfl ?_
        refine v_geti dX9_candidate_117 fr_X9_212 (by assumption) (by decide) rfl ?_
        refine v_iconst dX9_candidate_120 ?_
        refine v_isub dX9_candidate_121 ?_
        obtain ⟨r, hr⟩ := Int.eq_ofNat_of_zero_le (show 0 ≤ K 508 15 - 1 by omega)
        rw [hr]
        refine v_iload_n dX9_candidate_122 rfl ?_
        refine v_cV2 dX9_candidate_123 lk_X9_231 (by assumption) (by decide) rfl (k_votesIn hfl hM (by omega) (by omega)) (by decide) (Nat.le_of_ble_eq_true rfl) ?_ rfl
        exact v_iE dX9_candidate_126 rfl (by rw [if_pos (by omega)]; unfold cdM; rw [if_pos rfl, hr]; rfl) (by rw [if_pos (by omega)])
    · refine v_iconst dX9_candidate_37 ?_
      exact v_iE dX9_candidate_38 rfl (by rw [if_neg (by omega)]) (by rw [if_neg (by omega)])
  refine v_startE hfl rfl (by decide) (Nat.le_of_ble_eq_true rfl) (ls := [some (.ref 508), some (.int (ii c)), some (.int (ii w))]) rfl ?_
  refine v_aload_n dX9_candidate_0 rfl ?_
  refine v_aload_n dX9_candidate_1 rfl ?_
  refine v_iload_n dX9_candidate_2 rfl ?_
  refine v_cV1 dX9_candidate_3 lk_X9_168 (by assumption) (by decide) rfl (k_isCand hfl hM hMI.1 (by omega)) (by decide) (Nat.le_of_ble_eq_true rfl) ?_ rfl
  have hi := inF_01 c 0 (I 509 0 - 1)
  refine v_if_ne (tgt := 13) dX9_candidate_6 (by decide) (fun h6 => ?_) (fun h6 => ?_)
  · refine v_iload_n dX9_candidate_13 rfl ?_
    refine v_iconst dX9_candidate_14 ?_
    refine v_iconst dX9_candidate_15 ?_
    refine v_cS3 dX9_candidate_16 lk_X9_118 (k_in hfl (by omega) (by omega) (by omega)) (by decide) (Nat.le_of_ble_eq_true rfl) ?_ rfl
    have hj := inF_01 w 0 5
    refine v_if_ne (tgt := 26) dX9_candidate_19 (by decide) (fun h19 => ?_) (fun h19 => ?_)
    · refine v_iconst dX9_candidate_26 ?_
      exact Mt _ (by unfold tCd; (repeat (first | rw [if_pos (by omega)] | rw [if_neg (by omega)])))
    · refine v_iconst dX9_candidate_22 ?_
      refine v_goto (tgt := 27) dX9_candidate_23 (by decide) ?_
      exact Mt _ (by unfold tCd; (repeat (first | rw [if_pos (by omega)] | rw [if_neg (by omega)])))
  · refine v_iconst dX9_candidate_9 ?_
    refine v_goto (tgt := 27) dX9_candidate_10 (by decide) ?_
    exact Mt _ (by unfold tCd; (repeat (first | rw [if_pos (by omega)] | rw [if_neg (by omega)])))

set_option maxRecDepth 100000 in
set_option maxHeartbeats 4000000 in
theorem k_elected {l : Launch} {g : GV} {S : SS} {I : II} {X : XX} {K : II} {z : Int} (hfl : l.stackTraces = false) (hM : isMod S) (hMI : MI I) (hK : knO I = some K) (hO : KO K) (hz : -2147483648 ≤ z ∧ z < 2147483648) : CE l g mX9_elected 8 [.ref 508, .int (ii z)] S I X (some (.int (ii (edM K z).1))) (edM K z).2 := by
  obtain ⟨m0, ⟨p509, q509⟩, ⟨p510, q510⟩, ⟨p511, q511⟩, ⟨p512, q512⟩, ⟨p513, q513⟩, ⟨p514, q514⟩, ⟨p515, q515⟩, ⟨p516, q516⟩, ⟨p517, q517⟩, ⟨p518, q518⟩, ⟨p519, q519⟩, ⟨p520, q520⟩, ⟨p521, q521⟩, ⟨p522, q522⟩, ⟨p523, q523⟩, ⟨p524, q524⟩, ⟨p525, q525⟩, ⟨p526, q526⟩, ⟨p527, q527⟩, ⟨p528, q528⟩, ⟨p529, q529⟩, ⟨p530, q530⟩, ⟨p531, q531⟩, ⟨p532, q532⟩, ⟨p533, q533⟩, ⟨p534, q534⟩, ⟨p535, q535⟩, ⟨p536, q536⟩, ⟨p537, q537⟩, ⟨p538, q538⟩, ⟨p539, q539⟩, ⟨p540, q540⟩⟩ := id hM
  obtain ⟨o1, o2, o3⟩ := id hO
  obtain ⟨k0, k1, k2, k3, k4, k5, k6, k7, k8, k9, k10⟩ := id o1.1
  have Mt : ∀ T : Int, T = tEl K z → V l g mX9_elected 8 (Zm g (QE (some (.int (ii (edM K z).1))) S (edM K z).2 X)) 0 0 24 [some (.ref 508), some (.int (ii z))] [.int (ii T), .ref 508] S K X := by
    intro T hTf
    subst hTf
    refine v_puti dX9_elected_24 fr_X9_115 (by assumption) (by decide) rfl ?_
    refine v_aload_n dX9_elected_27 rfl ?_
    refine v_geti dX9_elected_28 fr_X9_115 (by assumption) (by decide) rfl ?_
    rw [up_eq]
    have t01 : tEl K z = 0 ∨ tEl K z = 1 := by unfold tEl; split <;> omega
    refine v_if_le (tgt := 38) dX9_elected_31 (by decide) (fun h31 => ?_) (fun h31 => ?_)
    · have hc1 : ¬ inF z 0 (K 508 32 - 1) = 0 := fun hc => by
        have : tEl K z = 1 := if_pos hc
        omega
      have hz1 := inF_1.mp hc1
      refine v_aload_n dX9_elected_38 rfl ?_
      refine v_getr dX9_elected_39 fr_X9_77 (by assumption) (by decide) rfl (by assumption) ?_
      refine v_iload_n dX9_elected_42 rfl ?_
      refine v_iald (j := z.toNat) dX9_elected_43 (by assumption) (by omega) (by omega) ?_
      rw [up_ne (by omega)]
      first
        | exact v_iE dX9_elected_44 rfl (by unfold edM; rw [if_neg (by omega)]) rfl
        | exact v_iE dX9_elected_44 rfl (by unfold edM; rw [if_pos (by omega)]) rfl
    · refine v_iconst dX9_elected_34 ?_
      refine v_goto (tgt := 44) dX9_elected_35 (by decide) ?_
      first
        | exact v_iE dX9_elected_44 rfl (by unfold edM; rw [if_neg (by omega)]) rfl
        | exact v_iE dX9_elected_44 rfl (by unfold edM; rw [if_pos (by omega)]) rfl
  refine v_startE hfl rfl (by decide) (Nat.le_of_ble_eq_true rfl) (ls := [some (.ref 508), some (.int (ii z))]) rfl ?_
  refine v_aload_n dX9_elected_0 rfl ?_
  refine v_cV0n dX9_elected_1 lk_X9_294 (by assumption) (by decide) rfl (k_know hfl hM hMI hK) (by decide) (Nat.le_of_ble_eq_true rfl) ?_ rfl
  refine v_aload_n dX9_elected_4 rfl ?_
  refine v_iload_n dX9_elected_5 rfl ?_
  refine v_iconst dX9_elected_6 ?_
  refine v_aload_n dX9_elected_7 rfl ?_
  refine v_geti dX9_elected_8 fr_X9_215 (by assumption) (by decide) rfl ?_
  refine v_iconst dX9_elected_11 ?_
  refine v_isub dX9_elected_12 ?_
  refine v_cS3 dX9_elected_13 lk_X9_118 (k_in hfl (by omega) (by omega) (by omega)) (by decide) (Nat.le_of_ble_eq_true rfl) ?_ rfl
  have hi := inF_01 z 0 (K 508 32 - 1)
  refine v_if_eq (tgt := 23) dX9_elected_16 (by decide) (fun h16 => ?_) (fun h16 => ?_)
  · refine v_iconst dX9_elected_23 ?_
    exact Mt _ (by unfold tEl; (repeat (first | rw [if_pos (by omega)] | rw [if_neg (by omega)])))
  · refine v_iconst dX9_elected_19 ?_
    refine v_goto (tgt := 24) dX9_elected_20 (by decide) ?_
    exact Mt _ (by unfold tEl; (repeat (first | rw [if_pos (by omega)] | rw [if_neg (by omega)])))

set_option maxRecDepth 100000 in
set_option maxHeartbeats 4000000 in
theorem k_where {l : Launch} {g : GV} {S : SS} {I : II} {X : XX} {K : II} {z p w : Int} (hfl : l.stackTraces = false) (hM : isMod S) (hMI : MI I) (hK : knO I = some K) (hO : KO K) (hz : -2147483648 ≤ z ∧ z < 2147483648) (hp : -2147483648 ≤ p ∧ p < 2147483648) (hw : -2147483648 ≤ w ∧ w < 2147483648) : CE l g mX9_where 8 [.ref 508, .int (ii z), .int (ii p), .int (ii w)] S I X (some (.int (ii (whM K z p w).1))) (whM K z p w).2 := by
  obtain ⟨m0, ⟨p509, q509⟩, ⟨p510, q510⟩, ⟨p511, q511⟩, ⟨p512, q512⟩, ⟨p513, q513⟩, ⟨p514, q514⟩, ⟨p515, q515⟩, ⟨p516, q516⟩, ⟨p517, q517⟩, ⟨p518, q518⟩, ⟨p519, q519⟩, ⟨p520, q520⟩, ⟨p521, q521⟩, ⟨p522, q522⟩, ⟨p523, q523⟩, ⟨p524, q524⟩, ⟨p525, q525⟩, ⟨p526, q526⟩, ⟨p527, q527⟩, ⟨p528, q528⟩, ⟨p529, q529⟩, ⟨p530, q530⟩, ⟨p531, q531⟩, ⟨p532, q532⟩, ⟨p533, q533⟩, ⟨p534, q534⟩, ⟨p535, q535⟩, ⟨p536, q536⟩, ⟨p537, q537⟩, ⟨p538, q538⟩, ⟨p539, q539⟩, ⟨p540, q540⟩⟩ := id hM
  obtain ⟨o1, o2, o3⟩ := id hO
  obtain ⟨k0, k1, k2, k3, k4, k5, k6, k7, k8, k9, k10⟩ := id o1.1
  have Mt : ∀ T : Int, T = tWh K z p w → V l g mX9_where 8 (Zm g (QE (some (.int (ii (whM K z p w).1))) S (whM K z p w).2 X)) 0 0 35 [some (.ref 508), some (.int (ii z)), some (.int (ii p)), some (.int (ii w))] [.int (ii T), .ref 508] S K X := by
    intro T hTf
    subst hTf
    refine v_puti dX9_where_35 fr_X9_115 (by assumption) (by decide) rfl ?_
    refine v_aload_n dX9_where_38 rfl ?_
    refine v_geti dX9_where_39 fr_X9_115 (by assumption) (by decide) rfl ?_
    rw [up_eq]
    have t01 : tWh K z p w = 0 ∨ tWh K z p w = 1 ∨ tWh K z p w = 2 := by unfold tWh; split <;> (try split) <;> omega
    refine v_if_le (tgt := 47) dX9_where_42 (by decide) (fun h42 => ?_) (fun h42 => ?_)
    · have hc1 : ¬ (inF z 0 (K 508 15 - 1) = 0 ∨ inF p 0 (K 509 1 - 1) = 0) := fun hc => by
        have : tWh K z p w = 1 := if_pos hc
        omega
      have hc2 : ¬ inF w 0 1 = 0 := fun hc => by
        have : tWh K z p w = 2 := by unfold tWh; rw [if_neg hc1, if_pos hc]
        omega
      have hz1 := inF_1.mp (fun e => hc1 (Or.inl e))
      have hz2 := inF_1.mp (fun e => hc1 (Or.inr e))
      have hz3 := inF_1.mp hc2
      refine v_iload_n dX9_where_47 rfl ?_
      refine v_if_ne (tgt := 65) dX9_where_48 (by decide) (fun h48 => ?_) (fun h48 => ?_)
      · refine v_aload_n dX9_where_65 rfl ?_
        refine v_getr dX9_where_66 fr_X9_59 (by assumption) (by decide) rfl (by assumption) ?_
        refine v_bipush dX9_where_69 (by decide) ?_
        refine v_iload_n dX9_where_71 rfl ?_
        refine v_imul dX9_where_72 ?_
        refine v_iload_n dX9_where_73 rfl ?_
        refine v_iadd dX9_where_74 ?_
        refine v_iald (j := 25 * z.toNat + p.toNat) dX9_where_75 (by assumption) (by omega) (by omega) ?_
        rw [up_ne (by omega)]
        first
          | exact v_iE dX9_where_76 rfl (by unfold whM; rw [if_pos (by omega), if_pos (by omega)]) rfl
          | exact v_iE dX9_where_76 rfl (by unfold whM; rw [if_pos (by omega), if_neg (by omega)]) rfl
      · refine v_aload_n dX9_where_51 rfl ?_
        refine v_getr dX9_where_52 fr_X9_56 (by assumption) (by decide) rfl (by assumption) ?_
        refine v_bipush dX9_where_55 (by decide) ?_
        refine v_iload_n dX9_where_57 rfl ?_
        refine v_imul dX9_where_58 ?_
        refine v_iload_n dX9_where_59 rfl ?_
        refine v_iadd dX9_where_60 ?_
        refine v_iald (j := 25 * z.toNat + p.toNat) dX9_where_61 (by assumption) (by omega) (by omega) ?_
        rw [up_ne (by omega)]
        refine v_goto (tgt := 76) dX9_where_62 (by decide) ?_
        first
          | exact v_iE dX9_where_76 rfl (by unfold whM; rw [if_pos (by omega), if_pos (by omega)]) rfl
          | exact v_iE dX9_where_76 rfl (by unfold whM; rw [if_pos (by omega), if_neg (by omega)]) rfl
    · refine v_iconst dX9_where_45 ?_
      exact v_iE dX9_where_46 rfl (by unfold whM; rw [if_neg (by omega)]) (rfl)
  refine v_startE hfl rfl (by decide) (Nat.le_of_ble_eq_true rfl) (ls := [some (.ref 508), some (.int (ii z)), some (.int (ii p)), some (.int (ii w))]) rfl ?_
  refine v_aload_n dX9_where_0 rfl ?_
  refine v_aload_n dX9_where_1 rfl ?_
  refine v_iload_n dX9_where_2 rfl ?_
  refine v_cV1 dX9_where_3 lk_X9_297 (by assumption) (by decide) rfl (k_isRound hfl hM hMI hK hO hz) (by decide) (Nat.le_of_ble_eq_true rfl) ?_ rfl
  have hi := inF_01 z 0 (K 508 15 - 1)
  refine v_if_eq (tgt := 17) dX9_where_6 (by decide) (fun h6 => ?_) (fun h6 => ?_)
  · refine v_iconst dX9_where_17 ?_
    refine v_goto (tgt := 35) dX9_where_18 (by decide) ?_
    exact Mt _ (by unfold tWh; (repeat (first | rw [if_pos (by omega)] | rw [if_neg (by omega)])))
  · refine v_aload_n dX9_where_9 rfl ?_
    refine v_iload_n dX9_where_10 rfl ?_
    refine v_cV1 dX9_where_11 lk_X9_161 (by assumption) (by decide) rfl (k_isPile hfl hM o1.1 (by omega)) (by decide) (Nat.le_of_ble_eq_true rfl) ?_ rfl
    have hj := inF_01 p 0 (K 509 1 - 1)
    refine v_if_ne (tgt := 21) dX9_where_14 (by decide) (fun h14 => ?_) (fun h14 => ?_)
    · refine v_iload_n dX9_where_21 rfl ?_
      refine v_iconst dX9_where_22 ?_
      refine v_iconst dX9_where_23 ?_
      refine v_cS3 dX9_where_24 lk_X9_118 (k_in hfl (by omega) (by omega) (by omega)) (by decide) (Nat.le_of_ble_eq_true rfl) ?_ rfl
      have hl := inF_01 w 0 1
      refine v_if_ne (tgt := 34) dX9_where_27 (by decide) (fun h27 => ?_) (fun h27 => ?_)
      · refine v_iconst dX9_where_34 ?_
        exact Mt _ (by unfold tWh; (repeat (first | rw [if_pos (by omega)] | rw [if_neg (by omega)])))
      · refine v_iconst dX9_where_30 ?_
        refine v_goto (tgt := 35) dX9_where_31 (by decide) ?_
        exact Mt _ (by unfold tWh; (repeat (first | rw [if_pos (by omega)] | rw [if_neg (by omega)])))
    · refine v_iconst dX9_where_17 ?_
      refine v_goto (tgt := 35) dX9_where_18 (by decide) ?_
      exact Mt _ (by unfold tWh; (repeat (first | rw [if_pos (by omega)] | rw [if_neg (by omega)])))

set_option maxRecDepth 100000 in
set_option maxHeartbeats 4000000 in
theorem k_share {l : Launch} {g : GV} {S : SS} {I : II} {X : XX} {K : II} {z c : Int} (hfl : l.stackTraces = false) (hM : isMod S) (hMI : MI I) (hK : knO I = some K) (hO : KO K) (hz : -2147483648 ≤ z ∧ z < 2147483648) (hc : -2147483648 ≤ c ∧ c < 2147483648) (hfd : ∀ u t : Int, 0 < t → t < 2147483648 → vf_n32 (FP.fdiv (FP.i2f (ii u)) (FP.i2f (ii t)))) : CE l g mX9_share 8 [.ref 508, .int (ii z), .int (ii c)] S I X (some (.float (shM K z c))) (up K 508 6 (tSh K z c)) := by
  obtain ⟨m0, ⟨p509, q509⟩, ⟨p510, q510⟩, ⟨p511, q511⟩, ⟨p512, q512⟩, ⟨p513, q513⟩, ⟨p514, q514⟩, ⟨p515, q515⟩, ⟨p516, q516⟩, ⟨p517, q517⟩, ⟨p518, q518⟩, ⟨p519, q519⟩, ⟨p520, q520⟩, ⟨p521, q521⟩, ⟨p522, q522⟩, ⟨p523, q523⟩, ⟨p524, q524⟩, ⟨p525, q525⟩, ⟨p526, q526⟩, ⟨p527, q527⟩, ⟨p528, q528⟩, ⟨p529, q529⟩, ⟨p530, q530⟩, ⟨p531, q531⟩, ⟨p532, q532⟩, ⟨p533, q533⟩, ⟨p534, q534⟩, ⟨p535, q535⟩, ⟨p536, q536⟩, ⟨p537, q537⟩, ⟨p538, q538⟩, ⟨p539, q539⟩, ⟨p540, q540⟩⟩ := id hM
  obtain ⟨o1, o2, o3⟩ := id hO
  obtain ⟨k0, k1, k2, k3, k4, k5, k6, k7, k8, k9, k10⟩ := id o1.1
  have hs := sumTo_b (f := mSz K) (n := (K 509 1).toNat) (fun p hp => k3 p (by omega)) (K 509 1).toNat (Nat.le_refl _)
  have hps : mPs K = sumTo (mSz K) (K 509 1).toNat := rfl
  have Mt : ∀ T : Int, T = tSh K z c → V l g mX9_share 8 (Zm g (QE (some (.float (shM K z c))) S (up K 508 6 (tSh K z c)) X)) 0 0 33 [some (.ref 508), some (.int (ii z)), some (.int (ii c))] [.int (ii T), .ref 508] S K X := by
    intro T hTf
    subst hTf
    refine v_puti dX9_share_33 fr_X9_115 (by assumption) (by decide) rfl ?_
    refine v_aload_n dX9_share_36 rfl ?_
    refine v_geti dX9_share_37 fr_X9_115 (by assumption) (by decide) rfl ?_
    rw [up_eq]
    have t01 : tSh K z c = 0 ∨ tSh K z c = 1 ∨ tSh K z c = 2 := by unfold tSh; split <;> (try split) <;> omega
    refine v_if_le (tgt := 47) dX9_share_40 (by decide) (fun h40 => ?_) (fun h40 => ?_)
    · have hc1 : ¬ (inF z 0 (K 508 15 - 1) = 0 ∨ inF c 0 (K 509 0 - 1) = 0) := fun hc => by
        have : tSh K z c = 1 := if_pos hc
        omega
      have hc2 : ¬ mPs K = 0 := fun hc => by
        have : tSh K z c = 2 := by unfold tSh; rw [if_neg hc1, if_pos hc]
        omega
      have hz1 := inF_1.mp (fun e => hc1 (Or.inl e))
      have hz2 := inF_1.mp (fun e => hc1 (Or.inr e))
      obtain ⟨r, rfl⟩ := Int.eq_ofNat_of_zero_le hz1.1
      obtain ⟨q, rfl⟩ := Int.eq_ofNat_of_zero_le hz2.1
      have hU : MI (up K 508 6 (tSh K (r : Int) (q : Int))) := MI_up o1 (by omega) (by omega)
      refine v_aload_n dX9_share_47 rfl ?_
      refine v_iload_n dX9_share_48 rfl ?_
      refine v_iload_n dX9_share_49 rfl ?_
      refine v_cV2 dX9_share_50 lk_X9_231 (by assumption) (by decide) rfl (k_votesIn hfl hM (by omega) (by omega)) (by decide) (Nat.le_of_ble_eq_true rfl) ?_ rfl
      rw [up_ne (by omega)]
      refine v_i2f dX9_share_53 ?_
      refine v_aload_n dX9_share_54 rfl ?_
      refine v_cV0 dX9_share_55 lk_X9_225 (by assumption) (by decide) rfl (k_papers hfl hM hU.1) (by decide) (Nat.le_of_ble_eq_true rfl) ?_ rfl
      rw [mPs_s (J := K) (up_ne (by omega))]
      refine v_sipush dX9_share_58 (by decide) ?_
      refine v_imul dX9_share_61 ?_
      refine v_i2f dX9_share_62 ?_
      refine v_fdiv dX9_share_63 (hfd _ _ (by omega) (by omega)) ?_
      first
        | exact v_fret dX9_share_64 rfl ⟨by unfold shM; rw [if_pos (by omega)]; first | done | rfl, rfl, rfl, rfl⟩ (fun _ => rfl)
        | exact v_fret dX9_share_64 rfl ⟨by unfold shM; rw [if_neg (by omega)], rfl, rfl, rfl⟩ (fun _ => rfl)
    · refine v_fconst0 dX9_share_43 ?_
      refine v_goto (tgt := 64) dX9_share_44 (by decide) ?_
      first
        | exact v_fret dX9_share_64 rfl ⟨by unfold shM; rw [if_pos (by omega)]; first | done | rfl, rfl, rfl, rfl⟩ (fun _ => rfl)
        | exact v_fret dX9_share_64 rfl ⟨by unfold shM; rw [if_neg (by omega)], rfl, rfl, rfl⟩ (fun _ => rfl)
  refine v_startE hfl rfl (by decide) (Nat.le_of_ble_eq_true rfl) (ls := [some (.ref 508), some (.int (ii z)), some (.int (ii c))]) rfl ?_
  refine v_aload_n dX9_share_0 rfl ?_
  refine v_aload_n dX9_share_1 rfl ?_
  refine v_iload_n dX9_share_2 rfl ?_
  refine v_cV1 dX9_share_3 lk_X9_297 (by assumption) (by decide) rfl (k_isRound hfl hM hMI hK hO hz) (by decide) (Nat.le_of_ble_eq_true rfl) ?_ rfl
  have hi := inF_01 z 0 (K 508 15 - 1)
  refine v_if_eq (tgt := 17) dX9_share_6 (by decide) (fun h6 => ?_) (fun h6 => ?_)
  · refine v_iconst dX9_share_17 ?_
    refine v_goto (tgt := 33) dX9_share_18 (by decide) ?_
    exact Mt _ (by unfold tSh; (repeat (first | rw [if_pos (by omega)] | rw [if_neg (by omega)])))
  · refine v_aload_n dX9_share_9 rfl ?_
    refine v_iload_n dX9_share_10 rfl ?_
    refine v_cV1 dX9_share_11 lk_X9_168 (by assumption) (by decide) rfl (k_isCand hfl hM o1.1 (by omega)) (by decide) (Nat.le_of_ble_eq_true rfl) ?_ rfl
    have hj := inF_01 c 0 (K 509 0 - 1)
    refine v_if_ne (tgt := 21) dX9_share_14 (by decide) (fun h14 => ?_) (fun h14 => ?_)
    · refine v_aload_n dX9_share_21 rfl ?_
      refine v_cV0 dX9_share_22 lk_X9_225 (by assumption) (by decide) rfl (k_papers hfl hM o1.1) (by decide) (Nat.le_of_ble_eq_true rfl) ?_ rfl
      refine v_if_ne (tgt := 32) dX9_share_25 (by decide) (fun h25 => ?_) (fun h25 => ?_)
      · refine v_iconst dX9_share_32 ?_
        exact Mt _ (by unfold tSh; (repeat (first | rw [if_pos (by omega)] | rw [if_neg (by omega)])))
      · refine v_iconst dX9_share_28 ?_
        refine v_goto (tgt := 33) dX9_share_29 (by decide) ?_
        exact Mt _ (by unfold tSh; (repeat (first | rw [if_pos (by omega)] | rw [if_neg (by omega)])))
    · refine v_iconst dX9_share_17 ?_
      refine v_goto (tgt := 33) dX9_share_18 (by decide) ?_
      exact Mt _ (by unfold tSh; (repeat (first | rw [if_pos (by omega)] | rw [if_neg (by omega)])))
