/-! THE MODEL: the steps of a count -/
def hpB (I : II) (ls : Int) (k : Nat) : Int := if I 525 k = 0 ∧ ls ≤ I 531 k then 1 else 0
def hpF (I : II) (ls : Int) : Nat → Nat
  | 0 => 0
  | k + 1 => orF (hpF I ls k) k (hpB I ls k)
theorem hpF_lt (I : II) (ls : Int) : ∀ k, k ≤ 8 → hpF I ls k < 256
  | 0, _ => by
    show (0 : Nat) < 256
    decide
  | k + 1, h => orF_lt (hpF_lt I ls k (by omega)) (by omega)
def wsB (I : II) (r k : Nat) : Int := if I 525 k = 1 ∧ I 532 k = 0 ∧ I 516 r < I 531 k then 1 else 0
def wsF (I : II) (r : Nat) : Nat → Nat
  | 0 => 0
  | k + 1 => orF (wsF I r k) k (wsB I r k)
theorem wsF_lt (I : II) (r : Nat) : ∀ k, k ≤ 8 → wsF I r k < 256
  | 0, _ => by
    show (0 : Nat) < 256
    decide
  | k + 1, h => orF_lt (wsF_lt I r k (by omega)) (by omega)
def ioF (I : II) (p : Nat) (cd la : Int) : Int := if I 533 p = cd ∧ (I 509 4 = 0 ∨ I 536 p = la) then 1 else 0
theorem ioF_01 (I : II) (p : Nat) (cd la : Int) : ioF I p cd la = 0 ∨ ioF I p cd la = 1 := by unfold ioF; split <;> omega
def nxM (I : II) (p : Nat) : Nat → Nat → Nat
  | 0, k => k
  | n + 1, k => if I 525 (mRk I p k).toNat = 0 then k else nxM I p n (k + 1)
theorem nxM_le (I : II) (p : Nat) : ∀ n k, k ≤ nxM I p n k ∧ nxM I p n k ≤ k + n
  | 0, k => by
    show k ≤ k ∧ k ≤ k + 0
    omega
  | n + 1, k => by
    have := nxM_le I p n (k + 1)
    unfold nxM
    split <;> omega
def goK (I : II) (p : Nat) (b : Int) : Nat := nxM I p ((mLn I p).toNat - (b + 1).toNat) (b + 1).toNat
def goM (I : II) (p : Nat) (b r : Int) : II :=
  if (goK I p b : Int) < mLn I p then up (up (up (up I 534 p (goK I p b)) 536 p r) 533 p (mRk I p (goK I p b))) 531 (mRk I p (goK I p b)).toNat (wr (I 531 (mRk I p (goK I p b)).toNat + mSz I p * I 535 p))
  else up (up (up (up I 534 p (goK I p b)) 536 p r) 533 p (-1)) 508 39 (wr (I 508 39 + mSz I p * I 535 p))
def hnM (I : II) (r : Nat) (a b m : Int) : II := up (up (up I 519 r a) 520 r b) 521 r (wr m)
def qmF (I : II) : Int := if I 509 3 = 0 then (dvI (mPs I) (I 509 6 + 1) + 1) * 10000 else if I 509 3 = 1 then dvI (mPs I + I 509 6 - 1) (I 509 6) * 10000 else if I 509 3 = 2 then dvI (mPs I * 10000) (I 509 6 + 1) + 1 else dvI (mPs I * 10000 - I 508 39 - I 508 40) (I 509 6 + 1) + 1
def noI (I : II) (r : Nat) : II := up (up (up (up (up (up (up I 516 r (wr (qmF I))) 517 r (I 508 39)) 518 r (I 508 40)) 519 r 0) 520 r (-1)) 521 r 0) 522 r 0
def noM (I : II) (r : Nat) : II := cpy (cpy (cpy (noI I r) 531 515 0 (8 * r) 8) 533 523 0 (25 * r) 25) 535 524 0 (25 * r) 25
/-- a seat for one of a set -/
def emM (I : II) (r s : Nat) (rs : Int) (q : Nat) : II := up (up (up (up (up (up (up (lkM I r s 1) 525 q 1) 526 q r) 527 q (I 508 32)) 528 q rs) 530 (I 508 32).toNat q) 508 32 (I 508 32 + 1)) 522 r ((I 522 r).toNat ||| 2 ^ q : Nat)
theorem lkM_ne {I : II} {r s x : Nat} {m : Int} (h : x ≠ 508) : lkM I r s m x = I x := lkI_ne h
theorem lkM_f {I : II} {r s k : Nat} {m : Int} (h1 : k ≠ 41) (h2 : k ≠ 42) : lkM I r s m 508 k = I 508 k := lkI_f h1 h2

set_option maxRecDepth 100000 in
set_option maxHeartbeats 4000000 in
theorem k_hopeful {l : Launch} {g : GV} {S : SS} {I : II} {X : XX} {ls : Int} (hfl : l.stackTraces = false) (hM : isMod S) (hW : WfM I) (hRG : RG I) (hls : -2147483648 ≤ ls ∧ ls < 2147483648) : CE l g mX9_hopeful 0 [.ref 508, .int (ii ls)] S I X (some (.int (ii (hpF I ls (I 509 0).toNat : Nat)))) I := by
  obtain ⟨m0, ⟨p509, q509⟩, ⟨p510, q510⟩, ⟨p511, q511⟩, ⟨p512, q512⟩, ⟨p513, q513⟩, ⟨p514, q514⟩, ⟨p515, q515⟩, ⟨p516, q516⟩, ⟨p517, q517⟩, ⟨p518, q518⟩, ⟨p519, q519⟩, ⟨p520, q520⟩, ⟨p521, q521⟩, ⟨p522, q522⟩, ⟨p523, q523⟩, ⟨p524, q524⟩, ⟨p525, q525⟩, ⟨p526, q526⟩, ⟨p527, q527⟩, ⟨p528, q528⟩, ⟨p529, q529⟩, ⟨p530, q530⟩, ⟨p531, q531⟩, ⟨p532, q532⟩, ⟨p533, q533⟩, ⟨p534, q534⟩, ⟨p535, q535⟩, ⟨p536, q536⟩, ⟨p537, q537⟩, ⟨p538, q538⟩, ⟨p539, q539⟩, ⟨p540, q540⟩⟩ := id hM
  obtain ⟨w0, w1, w2, w3, w4, w5, w6, w7, w8, w9, w10⟩ := id hW
  obtain ⟨n, hn⟩ := Int.eq_ofNat_of_zero_le (show 0 ≤ I 509 0 by omega)
  rw [show (I 509 0).toNat = n by rw [hn]; rfl]
  have L : ∀ k : Nat, k ≤ n → V l g mX9_hopeful 0 (Zm g (QE (some (.int (ii (hpF I ls n : Nat)))) S I X)) 0 0 4 [some (.ref 508), some (.int (ii ls)), some (.int (ii (hpF I ls k : Nat))), some (.int (ii (k : Int)))] [] S I X := by
    refine loop_up fun k hk ih => ?_
    refine v_iload_n dX9_hopeful_4 rfl ?_
    refine v_aload_n dX9_hopeful_5 rfl ?_
    refine v_getr dX9_hopeful_6 fr_X9_9 (by assumption) (by decide) rfl (by assumption) ?_
    refine v_iconst dX9_hopeful_9 ?_
    refine v_iald (j := 0) dX9_hopeful_10 (by assumption) (by first | rfl | omega) (by omega) ?_
    refine v_ic_ge (tgt := 49) dX9_hopeful_11 (by decide) (fun h11 => ?_) (fun h11 => ?_)
    · obtain rfl : k = n := by omega
      refine v_iload_n dX9_hopeful_49 rfl ?_
      exact v_iE dX9_hopeful_50 rfl (rfl) (rfl)
    · have g1 := hRG 525 k
      have g2 := hRG 531 k
      have hl8 := hpF_lt I ls k (by omega)
      have hk8 : k < 8 := by omega
      have ex : hpF I ls (k + 1) = orF (hpF I ls k) k (hpB I ls k) := rfl
      unfold orF hpB at ex
      refine v_iload_n dX9_hopeful_14 rfl ?_
      refine v_aload_n dX9_hopeful_15 rfl ?_
      refine v_getr dX9_hopeful_16 fr_X9_62 (by assumption) (by decide) rfl (by assumption) ?_
      refine v_iload_n dX9_hopeful_19 rfl ?_
      refine v_iald (j := k) dX9_hopeful_20 (by assumption) (by first | rfl | omega) (by omega) ?_
      refine v_if_ne (tgt := 40) dX9_hopeful_21 (by decide) (fun h21 => ?_) (fun h21 => ?_)
      · refine v_iconst dX9_hopeful_40 ?_
        first
          | refine v_ior (z := ((hpF I ls k ||| 2 ^ k : Nat) : Int)) dX9_hopeful_41 (or_b _ hl8 k hk8) ?_
          | refine v_ior (z := ((hpF I ls k : Nat) : Int)) dX9_hopeful_41 (or_z _ hl8) ?_
        refine v_istn2 dX9_hopeful_42 rfl ?_
        refine v_iinc3 dX9_hopeful_43 rfl ?_
        refine v_goto (tgt := 4) dX9_hopeful_46 (by decide) ?_
        have q9 := ih (k + 1) (by omega) (by omega)
        rw [ex] at q9
        first
          | (rw [if_neg (show ¬ (if I 525 k = 0 ∧ ls ≤ I 531 k then (1 : Int) else 0) = 0 by rw [if_pos (by omega)]; decide)] at q9; exact q9)
          | (rw [if_pos (show (if I 525 k = 0 ∧ ls ≤ I 531 k then (1 : Int) else 0) = 0 from if_neg (by omega))] at q9; exact q9)
      · refine v_aload_n dX9_hopeful_24 rfl ?_
        refine v_getr dX9_hopeful_25 fr_X9_80 (by assumption) (by decide) rfl (by assumption) ?_
        refine v_iload_n dX9_hopeful_28 rfl ?_
        refine v_iald (j := k) dX9_hopeful_29 (by assumption) (by first | rfl | omega) (by omega) ?_
        refine v_iload_n dX9_hopeful_30 rfl ?_
        refine v_ic_lt (tgt := 40) dX9_hopeful_31 (by decide) (fun h31 => ?_) (fun h31 => ?_)
        · refine v_iconst dX9_hopeful_40 ?_
          first
            | refine v_ior (z := ((hpF I ls k ||| 2 ^ k : Nat) : Int)) dX9_hopeful_41 (or_b _ hl8 k hk8) ?_
            | refine v_ior (z := ((hpF I ls k : Nat) : Int)) dX9_hopeful_41 (or_z _ hl8) ?_
          refine v_istn2 dX9_hopeful_42 rfl ?_
          refine v_iinc3 dX9_hopeful_43 rfl ?_
          refine v_goto (tgt := 4) dX9_hopeful_46 (by decide) ?_
          have q9 := ih (k + 1) (by omega) (by omega)
          rw [ex] at q9
          first
            | (rw [if_neg (show ¬ (if I 525 k = 0 ∧ ls ≤ I 531 k then (1 : Int) else 0) = 0 by rw [if_pos (by omega)]; decide)] at q9; exact q9)
            | (rw [if_pos (show (if I 525 k = 0 ∧ ls ≤ I 531 k then (1 : Int) else 0) = 0 from if_neg (by omega))] at q9; exact q9)
        · refine v_iconst dX9_hopeful_34 ?_
          refine v_iload_n dX9_hopeful_35 rfl ?_
          refine v_ishl (z := ((2 ^ k : Nat) : Int)) dX9_hopeful_36 (shl_b k hk8) ?_
          refine v_goto (tgt := 41) dX9_hopeful_37 (by decide) ?_
          first
            | refine v_ior (z := ((hpF I ls k ||| 2 ^ k : Nat) : Int)) dX9_hopeful_41 (or_b _ hl8 k hk8) ?_
            | refine v_ior (z := ((hpF I ls k : Nat) : Int)) dX9_hopeful_41 (or_z _ hl8) ?_
          refine v_istn2 dX9_hopeful_42 rfl ?_
          refine v_iinc3 dX9_hopeful_43 rfl ?_
          refine v_goto (tgt := 4) dX9_hopeful_46 (by decide) ?_
          have q9 := ih (k + 1) (by omega) (by omega)
          rw [ex] at q9
          first
            | (rw [if_neg (show ¬ (if I 525 k = 0 ∧ ls ≤ I 531 k then (1 : Int) else 0) = 0 by rw [if_pos (by omega)]; decide)] at q9; exact q9)
            | (rw [if_pos (show (if I 525 k = 0 ∧ ls ≤ I 531 k then (1 : Int) else 0) = 0 from if_neg (by omega))] at q9; exact q9)
  refine v_startE hfl rfl (by decide) (Nat.le_of_ble_eq_true rfl) (ls := [some (.ref 508), some (.int (ii ls)), none, none]) rfl ?_
  refine v_iconst dX9_hopeful_0 ?_
  refine v_istn2 dX9_hopeful_1 rfl ?_
  refine v_iconst dX9_hopeful_2 ?_
  refine v_istn3 dX9_hopeful_3 rfl ?_
  exact L 0 (Nat.zero_le _)

set_option maxRecDepth 100000 in
set_option maxHeartbeats 4000000 in
theorem k_withSurplus {l : Launch} {g : GV} {S : SS} {I : II} {X : XX} {r : Nat} (hfl : l.stackTraces = false) (hM : isMod S) (hW : WfM I) (hRG : RG I) (hrr : I 508 15 = (r : Int)) (hr : r < 9) : CE l g mX9_withSurplus 0 [.ref 508] S I X (some (.int (ii (wsF I r (I 509 0).toNat : Nat)))) I := by
  obtain ⟨m0, ⟨p509, q509⟩, ⟨p510, q510⟩, ⟨p511, q511⟩, ⟨p512, q512⟩, ⟨p513, q513⟩, ⟨p514, q514⟩, ⟨p515, q515⟩, ⟨p516, q516⟩, ⟨p517, q517⟩, ⟨p518, q518⟩, ⟨p519, q519⟩, ⟨p520, q520⟩, ⟨p521, q521⟩, ⟨p522, q522⟩, ⟨p523, q523⟩, ⟨p524, q524⟩, ⟨p525, q525⟩, ⟨p526, q526⟩, ⟨p527, q527⟩, ⟨p528, q528⟩, ⟨p529, q529⟩, ⟨p530, q530⟩, ⟨p531, q531⟩, ⟨p532, q532⟩, ⟨p533, q533⟩, ⟨p534, q534⟩, ⟨p535, q535⟩, ⟨p536, q536⟩, ⟨p537, q537⟩, ⟨p538, q538⟩, ⟨p539, q539⟩, ⟨p540, q540⟩⟩ := id hM
  obtain ⟨w0, w1, w2, w3, w4, w5, w6, w7, w8, w9, w10⟩ := id hW
  obtain ⟨n, hn⟩ := Int.eq_ofNat_of_zero_le (show 0 ≤ I 509 0 by omega)
  rw [show (I 509 0).toNat = n by rw [hn]; rfl]
  have L : ∀ k : Nat, k ≤ n → V l g mX9_withSurplus 0 (Zm g (QE (some (.int (ii (wsF I r n : Nat)))) S I X)) 0 0 4 [some (.ref 508), some (.int (ii (wsF I r k : Nat))), some (.int (ii (k : Int)))] [] S I X := by
    refine loop_up fun k hk ih => ?_
    refine v_iload_n dX9_withSurplus_4 rfl ?_
    refine v_aload_n dX9_withSurplus_5 rfl ?_
    refine v_getr dX9_withSurplus_6 fr_X9_9 (by assumption) (by decide) rfl (by assumption) ?_
    refine v_iconst dX9_withSurplus_9 ?_
    refine v_iald (j := 0) dX9_withSurplus_10 (by assumption) (by first | rfl | omega) (by omega) ?_
    refine v_ic_ge (tgt := 67) dX9_withSurplus_11 (by decide) (fun h11 => ?_) (fun h11 => ?_)
    · obtain rfl : k = n := by omega
      refine v_iload_n dX9_withSurplus_67 rfl ?_
      exact v_iE dX9_withSurplus_68 rfl (rfl) (rfl)
    · have g1 := hRG 525 k
      have g2 := hRG 531 k
      have g3 := hRG 516 r
      have g4 := hRG 532 k
      have hl8 := wsF_lt I r k (by omega)
      have hk8 : k < 8 := by omega
      have ex : wsF I r (k + 1) = orF (wsF I r k) k (wsB I r k) := rfl
      unfold orF wsB at ex
      refine v_iload_n dX9_withSurplus_14 rfl ?_
      refine v_aload_n dX9_withSurplus_15 rfl ?_
      refine v_getr dX9_withSurplus_16 fr_X9_62 (by assumption) (by decide) rfl (by assumption) ?_
      refine v_iload_n dX9_withSurplus_19 rfl ?_
      refine v_iald (j := k) dX9_withSurplus_20 (by assumption) (by first | rfl | omega) (by omega) ?_
      refine v_iconst dX9_withSurplus_21 ?_
      refine v_ic_ne (tgt := 58) dX9_withSurplus_22 (by decide) (fun h22 => ?_) (fun h22 => ?_)
      · refine v_iconst dX9_withSurplus_58 ?_
        first
          | refine v_ior (z := ((wsF I r k ||| 2 ^ k : Nat) : Int)) dX9_withSurplus_59 (or_b _ hl8 k hk8) ?_
          | refine v_ior (z := ((wsF I r k : Nat) : Int)) dX9_withSurplus_59 (or_z _ hl8) ?_
        refine v_istn1 dX9_withSurplus_60 rfl ?_
        refine v_iinc2 dX9_withSurplus_61 rfl ?_
        refine v_goto (tgt := 4) dX9_withSurplus_64 (by decide) ?_
        have q9 := ih (k + 1) (by omega) (by omega)
        rw [ex] at q9
        first
          | (rw [if_neg (show ¬ (if I 525 k = 1 ∧ I 532 k = 0 ∧ I 516 r < I 531 k then (1 : Int) else 0) = 0 by rw [if_pos (by omega)]; decide)] at q9; exact q9)
          | (rw [if_pos (show (if I 525 k = 1 ∧ I 532 k = 0 ∧ I 516 r < I 531 k then (1 : Int) else 0) = 0 from if_neg (by omega))] at q9; exact q9)
      · refine v_aload_n dX9_withSurplus_25 rfl ?_
        refine v_getr dX9_withSurplus_26 fr_X9_83 (by assumption) (by decide) rfl (by assumption) ?_
        refine v_iload_n dX9_withSurplus_29 rfl ?_
        refine v_bald (j := k) dX9_withSurplus_30 (by assumption) (by first | rfl | omega) (by omega) ?_
        refine v_if_ne (tgt := 58) dX9_withSurplus_31 (by decide) (fun h31 => ?_) (fun h31 => ?_)
        · refine v_iconst dX9_withSurplus_58 ?_
          first
            | refine v_ior (z := ((wsF I r k ||| 2 ^ k : Nat) : Int)) dX9_withSurplus_59 (or_b _ hl8 k hk8) ?_
            | refine v_ior (z := ((wsF I r k : Nat) : Int)) dX9_withSurplus_59 (or_z _ hl8) ?_
          refine v_istn1 dX9_withSurplus_60 rfl ?_
          refine v_iinc2 dX9_withSurplus_61 rfl ?_
          refine v_goto (tgt := 4) dX9_withSurplus_64 (by decide) ?_
          have q9 := ih (k + 1) (by omega) (by omega)
          rw [ex] at q9
          first
            | (rw [if_neg (show ¬ (if I 525 k = 1 ∧ I 532 k = 0 ∧ I 516 r < I 531 k then (1 : Int) else 0) = 0 by rw [if_pos (by omega)]; decide)] at q9; exact q9)
            | (rw [if_pos (show (if I 525 k = 1 ∧ I 532 k = 0 ∧ I 516 r < I 531 k then (1 : Int) else 0) = 0 from if_neg (by omega))] at q9; exact q9)
        · refine v_aload_n dX9_withSurplus_34 rfl ?_
          refine v_getr dX9_withSurplus_35 fr_X9_80 (by assumption) (by decide) rfl (by assumption) ?_
          refine v_iload_n dX9_withSurplus_38 rfl ?_
          refine v_iald (j := k) dX9_withSurplus_39 (by assumption) (by first | rfl | omega) (by omega) ?_
          refine v_aload_n dX9_withSurplus_40 rfl ?_
          refine v_getr dX9_withSurplus_41 fr_X9_35 (by assumption) (by decide) rfl (by assumption) ?_
          refine v_aload_n dX9_withSurplus_44 rfl ?_
          refine v_geti dX9_withSurplus_45 fr_X9_212 (by assumption) (by decide) rfl ?_
          rw [hrr]
          refine v_iald (j := r) dX9_withSurplus_48 (by assumption) (by first | rfl | omega) (by omega) ?_
          refine v_ic_le (tgt := 58) dX9_withSurplus_49 (by decide) (fun h49 => ?_) (fun h49 => ?_)
          · refine v_iconst dX9_withSurplus_58 ?_
            first
              | refine v_ior (z := ((wsF I r k ||| 2 ^ k : Nat) : Int)) dX9_withSurplus_59 (or_b _ hl8 k hk8) ?_
              | refine v_ior (z := ((wsF I r k : Nat) : Int)) dX9_withSurplus_59 (or_z _ hl8) ?_
            refine v_istn1 dX9_withSurplus_60 rfl ?_
            refine v_iinc2 dX9_withSurplus_61 rfl ?_
            refine v_goto (tgt := 4) dX9_withSurplus_64 (by decide) ?_
            have q9 := ih (k + 1) (by omega) (by omega)
            rw [ex] at q9
            first
              | (rw [if_neg (show ¬ (if I 525 k = 1 ∧ I 532 k = 0 ∧ I 516 r < I 531 k then (1 : Int) else 0) = 0 by rw [if_pos (by omega)]; decide)] at q9; exact q9)
              | (rw [if_pos (show (if I 525 k = 1 ∧ I 532 k = 0 ∧ I 516 r < I 531 k then (1 : Int) else 0) = 0 from if_neg (by omega))] at q9; exact q9)
          · refine v_iconst dX9_withSurplus_52 ?_
            refine v_iload_n dX9_withSurplus_53 rfl ?_
            refine v_ishl (z := ((2 ^ k : Nat) : Int)) dX9_withSurplus_54 (shl_b k hk8) ?_
            refine v_goto (tgt := 59) dX9_withSurplus_55 (by decide) ?_
            first
              | refine v_ior (z := ((wsF I r k ||| 2 ^ k : Nat) : Int)) dX9_withSurplus_59 (or_b _ hl8 k hk8) ?_
              | refine v_ior (z := ((wsF I r k : Nat) : Int)) dX9_withSurplus_59 (or_z _ hl8) ?_
            refine v_istn1 dX9_withSurplus_60 rfl ?_
            refine v_iinc2 dX9_withSurplus_61 rfl ?_
            refine v_goto (tgt := 4) dX9_withSurplus_64 (by decide) ?_
            have q9 := ih (k + 1) (by omega) (by omega)
            rw [ex] at q9
            first
              | (rw [if_neg (show ¬ (if I 525 k = 1 ∧ I 532 k = 0 ∧ I 516 r < I 531 k then (1 : Int) else 0) = 0 by rw [if_pos (by omega)]; decide)] at q9; exact q9)
              | (rw [if_pos (show (if I 525 k = 1 ∧ I 532 k = 0 ∧ I 516 r < I 531 k then (1 : Int) else 0) = 0 from if_neg (by omega))] at q9; exact q9)
  refine v_startE hfl rfl (by decide) (Nat.le_of_ble_eq_true rfl) (ls := [some (.ref 508), none, none]) rfl ?_
  refine v_iconst dX9_withSurplus_0 ?_
  refine v_istn1 dX9_withSurplus_1 rfl ?_
  refine v_iconst dX9_withSurplus_2 ?_
  refine v_istn2 dX9_withSurplus_3 rfl ?_
  exact L 0 (Nat.zero_le _)

set_option maxRecDepth 100000 in
set_option maxHeartbeats 4000000 in
theorem k_isOfParcel {l : Launch} {g : GV} {S : SS} {I : II} {X : XX} {p : Nat} {cd la : Int} (hfl : l.stackTraces = false) (hM : isMod S) (hW : WfM I) (hRG : RG I) (hp : p < 25) (hcd : -2147483648 ≤ cd ∧ cd < 2147483648) (hla : -2147483648 ≤ la ∧ la < 2147483648) : CE l g mX9_isOfParcel 0 [.ref 508, .int (ii (p : Int)), .int (ii cd), .int (ii la)] S I X (some (.int (ii (ioF I p cd la)))) I := by
  obtain ⟨m0, ⟨p509, q509⟩, ⟨p510, q510⟩, ⟨p511, q511⟩, ⟨p512, q512⟩, ⟨p513, q513⟩, ⟨p514, q514⟩, ⟨p515, q515⟩, ⟨p516, q516⟩, ⟨p517, q517⟩, ⟨p518, q518⟩, ⟨p519, q519⟩, ⟨p520, q520⟩, ⟨p521, q521⟩, ⟨p522, q522⟩, ⟨p523, q523⟩, ⟨p524, q524⟩, ⟨p525, q525⟩, ⟨p526, q526⟩, ⟨p527, q527⟩, ⟨p528, q528⟩, ⟨p529, q529⟩, ⟨p530, q530⟩, ⟨p531, q531⟩, ⟨p532, q532⟩, ⟨p533, q533⟩, ⟨p534, q534⟩, ⟨p535, q535⟩, ⟨p536, q536⟩, ⟨p537, q537⟩, ⟨p538, q538⟩, ⟨p539, q539⟩, ⟨p540, q540⟩⟩ := id hM
  obtain ⟨w0, w1, w2, w3, w4, w5, w6, w7, w8, w9, w10⟩ := id hW
  refine v_startE hfl rfl (by decide) (Nat.le_of_ble_eq_true rfl) (ls := [some (.ref 508), some (.int (ii (p : Int))), some (.int (ii cd)), some (.int (ii la))]) rfl ?_
  refine v_aload_n dX9_isOfParcel_0 rfl ?_
  refine v_getr dX9_isOfParcel_1 fr_X9_87 (by assumption) (by decide) rfl (by assumption) ?_
  refine v_iload_n dX9_isOfParcel_4 rfl ?_
  refine v_iald (j := p) dX9_isOfParcel_5 (by assumption) (by first | rfl | omega) (by omega) ?_
  refine v_iload_n dX9_isOfParcel_6 rfl ?_
  have g1 := hRG 533 p
  have g2 := hRG 536 p
  refine v_ic_ne (tgt := 33) dX9_isOfParcel_7 (by decide) (fun h7 => ?_) (fun h7 => ?_)
  · refine v_iconst dX9_isOfParcel_33 ?_
    exact v_zE dX9_isOfParcel_34 rfl (by first | exact Or.inl rfl | exact Or.inr rfl | omega) (by unfold ioF; first | exact (if_pos (by omega)).symm | exact (if_neg (by omega)).symm) (rfl)
  · refine v_aload_n dX9_isOfParcel_10 rfl ?_
    refine v_getr dX9_isOfParcel_11 fr_X9_9 (by assumption) (by decide) rfl (by assumption) ?_
    refine v_iconst dX9_isOfParcel_14 ?_
    refine v_iald (j := 4) dX9_isOfParcel_15 (by assumption) (by first | rfl | omega) (by omega) ?_
    refine v_if_eq (tgt := 29) dX9_isOfParcel_16 (by decide) (fun h16 => ?_) (fun h16 => ?_)
    · refine v_iconst dX9_isOfParcel_29 ?_
      refine v_goto (tgt := 34) dX9_isOfParcel_30 (by decide) ?_
      exact v_zE dX9_isOfParcel_34 rfl (by first | exact Or.inl rfl | exact Or.inr rfl | omega) (by unfold ioF; first | exact (if_pos (by omega)).symm | exact (if_neg (by omega)).symm) (rfl)
    · refine v_aload_n dX9_isOfParcel_19 rfl ?_
      refine v_getr dX9_isOfParcel_20 fr_X9_96 (by assumption) (by decide) rfl (by assumption) ?_
      refine v_iload_n dX9_isOfParcel_23 rfl ?_
      refine v_iald (j := p) dX9_isOfParcel_24 (by assumption) (by first | rfl | omega) (by omega) ?_
      refine v_iload_n dX9_isOfParcel_25 rfl ?_
      refine v_ic_ne (tgt := 33) dX9_isOfParcel_26 (by decide) (fun h26 => ?_) (fun h26 => ?_)
      · refine v_iconst dX9_isOfParcel_33 ?_
        exact v_zE dX9_isOfParcel_34 rfl (by first | exact Or.inl rfl | exact Or.inr rfl | omega) (by unfold ioF; first | exact (if_pos (by omega)).symm | exact (if_neg (by omega)).symm) (rfl)
      · refine v_iconst dX9_isOfParcel_29 ?_
        refine v_goto (tgt := 34) dX9_isOfParcel_30 (by decide) ?_
        exact v_zE dX9_isOfParcel_34 rfl (by first | exact Or.inl rfl | exact Or.inr rfl | omega) (by unfold ioF; first | exact (if_pos (by omega)).symm | exact (if_neg (by omega)).symm) (rfl)

set_option maxRecDepth 100000 in
set_option maxHeartbeats 4000000 in
theorem k_goOnB {l : Launch} {g : GV} {S : SS} {I : II} {X : XX} {p k : Nat} {b r : Int} {x5 : Option Value} (hfl : l.stackTraces = false) (hM : isMod S) (hW : WfM I) (hRG : RG I) (hp : p < 25) (hkk : goK I p b = k) (hk9 : k ≤ 9) : V l g mX9_goOn 2 (Zm g (QE none S (goM I p b r) X)) 0 0 36 [some (.ref 508), some (.int (ii (p : Int))), some (.int (ii b)), some (.int (ii r)), some (.int (ii (k : Int))), x5] [] S I X := by
  obtain ⟨m0, ⟨p509, q509⟩, ⟨p510, q510⟩, ⟨p511, q511⟩, ⟨p512, q512⟩, ⟨p513, q513⟩, ⟨p514, q514⟩, ⟨p515, q515⟩, ⟨p516, q516⟩, ⟨p517, q517⟩, ⟨p518, q518⟩, ⟨p519, q519⟩, ⟨p520, q520⟩, ⟨p521, q521⟩, ⟨p522, q522⟩, ⟨p523, q523⟩, ⟨p524, q524⟩, ⟨p525, q525⟩, ⟨p526, q526⟩, ⟨p527, q527⟩, ⟨p528, q528⟩, ⟨p529, q529⟩, ⟨p530, q530⟩, ⟨p531, q531⟩, ⟨p532, q532⟩, ⟨p533, q533⟩, ⟨p534, q534⟩, ⟨p535, q535⟩, ⟨p536, q536⟩, ⟨p537, q537⟩, ⟨p538, q538⟩, ⟨p539, q539⟩, ⟨p540, q540⟩⟩ := id hM
  obtain ⟨w0, w1, w2, w3, w4, w5, w6, w7, w8, w9, w10⟩ := id hW
  have w4p := w4 p hp
  obtain ⟨n, hn⟩ := Int.eq_ofNat_of_zero_le w4p.1
  have hL9 : ∀ J : II, J 509 = I 509 → mLn J p = (n : Int) := fun J e => by rw [← hn]; unfold mLn; rw [e]
  have hS9 : ∀ J : II, J 509 = I 509 → mSz J p = mSz I p := fun J e => by unfold mSz; rw [e]
  have hR9 : ∀ (J : II) (k : Nat), J 509 = I 509 → mRk J p k = mRk I p k := fun J k e => by unfold mRk; rw [e]
  refine v_aload_n dX9_goOn_36 rfl ?_
  refine v_getr dX9_goOn_37 fr_X9_90 (by assumption) (by decide) rfl (by assumption) ?_
  refine v_iload_n dX9_goOn_40 rfl ?_
  refine v_iload dX9_goOn_41 rfl ?_
  refine v_iast (j := p) dX9_goOn_43 (by assumption) (by first | rfl | omega) (by omega) ?_
  refine v_aload_n dX9_goOn_44 rfl ?_
  refine v_getr dX9_goOn_45 fr_X9_96 (by assumption) (by decide) rfl (by assumption) ?_
  refine v_iload_n dX9_goOn_48 rfl ?_
  refine v_iload_n dX9_goOn_49 rfl ?_
  refine v_iast (j := p) dX9_goOn_50 (by assumption) (by first | rfl | omega) (by omega) ?_
  refine v_aload_n dX9_goOn_51 rfl ?_
  refine v_getr dX9_goOn_52 fr_X9_87 (by assumption) (by decide) rfl (by assumption) ?_
  refine v_iload_n dX9_goOn_55 rfl ?_
  refine v_iload dX9_goOn_56 rfl ?_
  refine v_aload_n dX9_goOn_58 rfl ?_
  refine v_iload_n dX9_goOn_59 rfl ?_
  refine v_cV1 dX9_goOn_60 lk_X9_199 (by assumption) (by decide) rfl (k_lengthOf hfl hM hp) (by decide) (Nat.le_of_ble_eq_true rfl) ?_ rfl
  rw [hL9 _ (by rw [up_ne (by omega), up_ne (by omega)])]
  refine v_ic_ge (tgt := 76) dX9_goOn_63 (by decide) (fun h63 => ?_) (fun h63 => ?_)
  · refine v_iconst dX9_goOn_76 ?_
    refine v_iast (j := p) dX9_goOn_77 (by assumption) (by first | rfl | omega) (by omega) ?_
    refine v_aload_n dX9_goOn_78 rfl ?_
    refine v_iload_n dX9_goOn_79 rfl ?_
    refine v_cV1 dX9_goOn_80 lk_X9_203 (by assumption) (by decide) rfl (k_sizeOf hfl hM hp) (by decide) (Nat.le_of_ble_eq_true rfl) ?_ rfl
    rw [hS9 _ (by rw [up_ne (by omega), up_ne (by omega), up_ne (by omega)])]
    refine v_aload_n dX9_goOn_83 rfl ?_
    refine v_getr dX9_goOn_84 fr_X9_93 (by assumption) (by decide) rfl (by assumption) ?_
    refine v_iload_n dX9_goOn_87 rfl ?_
    refine v_iald (j := p) dX9_goOn_88 (by assumption) rfl (by omega) ?_
    rw [up_ne (by omega), up_ne (by omega), up_ne (by omega)]
    refine v_imul dX9_goOn_89 ?_
    refine v_ist5 dX9_goOn_90 rfl ?_
    refine v_aload_n dX9_goOn_92 rfl ?_
    refine v_getr dX9_goOn_93 fr_X9_87 (by assumption) (by decide) rfl (by assumption) ?_
    refine v_iload_n dX9_goOn_96 rfl ?_
    refine v_iald (j := p) dX9_goOn_97 (by assumption) rfl (by omega) ?_
    rw [up_eq]
    refine v_if_lt (tgt := 120) dX9_goOn_98 (by decide) (fun h98 => ?_) (fun h98 => ?_)
    · refine v_aload_n dX9_goOn_120 rfl ?_
      refine v_dup dX9_goOn_121 rfl ?_
      refine v_geti dX9_goOn_122 fr_X9_209 (by assumption) (by decide) rfl ?_
      rw [up_ne (by omega), up_ne (by omega), up_ne (by omega)]
      refine v_iload dX9_goOn_125 rfl ?_
      refine v_iadd dX9_goOn_127 ?_
      refine v_wr ?_
      refine v_puti dX9_goOn_128 fr_X9_209 (by assumption) (by decide) rfl ?_
      first
        | (exfalso; omega)
        | exact v_vE dX9_goOn_131 rfl (by unfold goM; rw [hkk, if_pos (by omega), hd, Int.toNat_natCast])
        | exact v_vE dX9_goOn_131 rfl (by unfold goM; rw [hkk, if_neg (by omega)])
    · exfalso; omega
  · refine v_aload_n dX9_goOn_66 rfl ?_
    refine v_iload_n dX9_goOn_67 rfl ?_
    refine v_iload dX9_goOn_68 rfl ?_
    refine v_cV2 dX9_goOn_70 lk_X9_206 (by assumption) (by decide) rfl (k_rankOf hfl hM hp (by omega)) (by decide) (Nat.le_of_ble_eq_true rfl) ?_ rfl
    rw [hR9 _ k (by rw [up_ne (by omega), up_ne (by omega)])]
    have w5k := w5 p k hp (by omega)
    obtain ⟨d, hd⟩ := Int.eq_ofNat_of_zero_le w5k.1
    rw [hd] at w5k ⊢
    refine v_goto (tgt := 77) dX9_goOn_73 (by decide) ?_
    refine v_iast (j := p) dX9_goOn_77 (by assumption) (by first | rfl | omega) (by omega) ?_
    refine v_aload_n dX9_goOn_78 rfl ?_
    refine v_iload_n dX9_goOn_79 rfl ?_
    refine v_cV1 dX9_goOn_80 lk_X9_203 (by assumption) (by decide) rfl (k_sizeOf hfl hM hp) (by decide) (Nat.le_of_ble_eq_true rfl) ?_ rfl
    rw [hS9 _ (by rw [up_ne (by omega), up_ne (by omega), up_ne (by omega)])]
    refine v_aload_n dX9_goOn_83 rfl ?_
    refine v_getr dX9_goOn_84 fr_X9_93 (by assumption) (by decide) rfl (by assumption) ?_
    refine v_iload_n dX9_goOn_87 rfl ?_
    refine v_iald (j := p) dX9_goOn_88 (by assumption) rfl (by omega) ?_
    rw [up_ne (by omega), up_ne (by omega), up_ne (by omega)]
    refine v_imul dX9_goOn_89 ?_
    refine v_ist5 dX9_goOn_90 rfl ?_
    refine v_aload_n dX9_goOn_92 rfl ?_
    refine v_getr dX9_goOn_93 fr_X9_87 (by assumption) (by decide) rfl (by assumption) ?_
    refine v_iload_n dX9_goOn_96 rfl ?_
    refine v_iald (j := p) dX9_goOn_97 (by assumption) rfl (by omega) ?_
    rw [up_eq]
    refine v_if_lt (tgt := 120) dX9_goOn_98 (by decide) (fun h98 => ?_) (fun h98 => ?_)
    · exfalso; omega
    · refine v_aload_n dX9_goOn_101 rfl ?_
      refine v_getr dX9_goOn_102 fr_X9_80 (by assumption) (by decide) rfl (by assumption) ?_
      refine v_aload_n dX9_goOn_105 rfl ?_
      refine v_getr dX9_goOn_106 fr_X9_87 (by assumption) (by decide) rfl (by assumption) ?_
      refine v_iload_n dX9_goOn_109 rfl ?_
      refine v_iald (j := p) dX9_goOn_110 (by assumption) rfl (by omega) ?_
      rw [up_eq]
      refine v_dup2 dX9_goOn_111 rfl rfl ?_
      refine v_iald (j := d) dX9_goOn_112 (by assumption) rfl (by omega) ?_
      rw [up_ne (by omega), up_ne (by omega), up_ne (by omega)]
      refine v_iload dX9_goOn_113 rfl ?_
      refine v_iadd dX9_goOn_115 ?_
      refine v_wr ?_
      refine v_iast (j := d) dX9_goOn_116 (by assumption) rfl (by omega) ?_
      refine v_goto (tgt := 131) dX9_goOn_117 (by decide) ?_
      first
        | (exfalso; omega)
        | exact v_vE dX9_goOn_131 rfl (by unfold goM; rw [hkk, if_pos (by omega), hd, Int.toNat_natCast])
        | exact v_vE dX9_goOn_131 rfl (by unfold goM; rw [hkk, if_neg (by omega)])

set_option maxRecDepth 100000 in
set_option maxHeartbeats 4000000 in
theorem k_goOn {l : Launch} {g : GV} {S : SS} {I : II} {X : XX} {p : Nat} {b r : Int} (hfl : l.stackTraces = false) (hM : isMod S) (hW : WfM I) (hRG : RG I) (hp : p < 25) (hb : -1 ≤ b ∧ b ≤ 8) : CE l g mX9_goOn 2 [.ref 508, .int (ii (p : Int)), .int (ii b), .int (ii r)] S I X none (goM I p b r) := by
  obtain ⟨m0, ⟨p509, q509⟩, ⟨p510, q510⟩, ⟨p511, q511⟩, ⟨p512, q512⟩, ⟨p513, q513⟩, ⟨p514, q514⟩, ⟨p515, q515⟩, ⟨p516, q516⟩, ⟨p517, q517⟩, ⟨p518, q518⟩, ⟨p519, q519⟩, ⟨p520, q520⟩, ⟨p521, q521⟩, ⟨p522, q522⟩, ⟨p523, q523⟩, ⟨p524, q524⟩, ⟨p525, q525⟩, ⟨p526, q526⟩, ⟨p527, q527⟩, ⟨p528, q528⟩, ⟨p529, q529⟩, ⟨p530, q530⟩, ⟨p531, q531⟩, ⟨p532, q532⟩, ⟨p533, q533⟩, ⟨p534, q534⟩, ⟨p535, q535⟩, ⟨p536, q536⟩, ⟨p537, q537⟩, ⟨p538, q538⟩, ⟨p539, q539⟩, ⟨p540, q540⟩⟩ := id hM
  obtain ⟨w0, w1, w2, w3, w4, w5, w6, w7, w8, w9, w10⟩ := id hW
  have w4p := w4 p hp
  obtain ⟨n, hn⟩ := Int.eq_ofNat_of_zero_le w4p.1
  obtain ⟨c, hc⟩ := Int.eq_ofNat_of_zero_le (show 0 ≤ b + 1 by omega)
  have hgk : goK I p b = nxM I p (n - c) c := by unfold goK; rw [hn, hc]; rfl
  have L : ∀ k : Nat, k ≤ 9 → nxM I p (n - c) c = nxM I p (n - k) k → c ≤ k → V l g mX9_goOn 2 (Zm g (QE none S (goM I p b r) X)) 0 0 5 [some (.ref 508), some (.int (ii (p : Int))), some (.int (ii b)), some (.int (ii r)), some (.int (ii (k : Int))), none] [] S I X := by
    refine loop_up fun k hk ih => ?_
    intro hk0 hck
    refine v_iload dX9_goOn_5 rfl ?_
    refine v_aload_n dX9_goOn_7 rfl ?_
    refine v_iload_n dX9_goOn_8 rfl ?_
    refine v_cV1 dX9_goOn_9 lk_X9_199 (by assumption) (by decide) rfl (k_lengthOf hfl hM hp) (by decide) (Nat.le_of_ble_eq_true rfl) ?_ rfl
    rw [hn]
    refine v_ic_ge (tgt := 36) dX9_goOn_12 (by decide) (fun h12 => ?_) (fun h12 => ?_)
    · exact v_fgt2 (k_goOnB (b := b) (k := k) hfl hM hW hRG hp (by rw [hgk, hk0]; first | (rw [ek, if_pos (by omega)]) | (rw [show n - k = 0 by omega]; rfl)) (by omega)) (fgt_c (Or.inr rfl) (fgt_c (Or.inr rfl) (fgt_c (Or.inr rfl) (fgt_c (Or.inr rfl) (fgt_c (Or.inr rfl) (fgt_c (Or.inr rfl) (fgt_n)))))))
    · have ek : nxM I p (n - k) k = if I 525 (mRk I p k).toNat = 0 then k else nxM I p (n - (k + 1)) (k + 1) := by
        rw [show n - k = (n - (k + 1)) + 1 by omega]
        rfl
      have w5k := w5 p k hp (by omega)
      obtain ⟨d, hd⟩ := Int.eq_ofNat_of_zero_le w5k.1
      rw [hd, Int.toNat_natCast] at ek
      have g1 := hRG 525 d
      refine v_aload_n dX9_goOn_15 rfl ?_
      refine v_getr dX9_goOn_16 fr_X9_62 (by assumption) (by decide) rfl (by assumption) ?_
      refine v_aload_n dX9_goOn_19 rfl ?_
      refine v_iload_n dX9_goOn_20 rfl ?_
      refine v_iload dX9_goOn_21 rfl ?_
      refine v_cV2 dX9_goOn_23 lk_X9_206 (by assumption) (by decide) rfl (k_rankOf hfl hM hp (by omega)) (by decide) (Nat.le_of_ble_eq_true rfl) ?_ rfl
      rw [hd]
      refine v_iald (j := d) dX9_goOn_26 (by assumption) (by first | rfl | omega) (by omega) ?_
      refine v_if_eq (tgt := 36) dX9_goOn_27 (by decide) (fun h27 => ?_) (fun h27 => ?_)
      · exact v_fgt2 (k_goOnB (b := b) (k := k) hfl hM hW hRG hp (by rw [hgk, hk0]; first | (rw [ek, if_pos (by omega)]) | (rw [show n - k = 0 by omega]; rfl)) (by omega)) (fgt_c (Or.inr rfl) (fgt_c (Or.inr rfl) (fgt_c (Or.inr rfl) (fgt_c (Or.inr rfl) (fgt_c (Or.inr rfl) (fgt_c (Or.inr rfl) (fgt_n)))))))
      · refine v_iinc4 dX9_goOn_30 rfl ?_
        refine v_goto (tgt := 5) dX9_goOn_33 (by decide) ?_
        exact ih (k + 1) (by omega) (by omega) (by rw [hk0, ek, if_neg (by omega)]) (by omega)
  refine v_startE hfl rfl (by decide) (Nat.le_of_ble_eq_true rfl) (ls := [some (.ref 508), some (.int (ii (p : Int))), some (.int (ii b)), some (.int (ii r)), none, none]) rfl ?_
  refine v_iload_n dX9_goOn_0 rfl ?_
  refine v_iconst dX9_goOn_1 ?_
  refine v_iadd dX9_goOn_2 ?_
  rw [hc]
  refine v_ist4 dX9_goOn_3 rfl ?_
  exact L c (by omega) rfl (Nat.le_refl _)
