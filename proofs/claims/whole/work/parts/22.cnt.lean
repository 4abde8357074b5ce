/-! COUNTING: its small methods -/
/-- from place k on, the first candidate of a set; where there is none, the length -/
def nextF (f : Nat → Int) (h : Nat) : Nat → Nat → Nat
  | 0, k => k
  | n + 1, k => if btI h (f k).toNat = 0 then nextF f h n (k + 1) else k
def unitsF (I : II) (c e p : Nat) : Int := I (e + 3) p * I (c + 51) p
def sendK (I : II) (c e p : Nat) : Nat := nextF (I (e + 6 + p)) (I c 10).toNat ((I (e + 4) p).toNat - (I (c + 49) p + 1).toNat) (I (c + 49) p + 1).toNat
def sendM (I : II) (c e p : Nat) (r : Int) : II :=
  if (sendK I c e p : Int) < I (e + 4) p then up (up (up (up I (c + 48) p (I (e + 6 + p) (sendK I c e p))) (c + 49) p (sendK I c e p)) (c + 50) p r) (c + 47) (I (e + 6 + p) (sendK I c e p)).toNat (wr (I (c + 47) (I (e + 6 + p) (sendK I c e p)).toNat + unitsF I c e p))
  else up (up I (c + 48) p (-1)) c 14 (wr (I c 14 + unitsF I c e p))

theorem sendK_eq {I : II} {c e p h n pl : Nat} (hh : I c 10 = (h : Int)) (hn : I (e + 4) p = (n : Int)) (hpl : I (c + 49) p + 1 = (pl : Int)) : sendK I c e p = nextF (I (e + 6 + p)) h (n - pl) pl := by
  unfold sendK
  rw [hh, hn, hpl]
  simp only [Int.toNat_natCast]
theorem sendM_yes {I : II} {c e p h n pl k q : Nat} {r : Int} (hh : I c 10 = (h : Int)) (hn : I (e + 4) p = (n : Int)) (hpl : I (c + 49) p + 1 = (pl : Int)) (hk : nextF (I (e + 6 + p)) h (n - pl) pl = k) (hkn : k < n) (hq : I (e + 6 + p) k = (q : Int)) :
    sendM I c e p r = up (up (up (up I (c + 48) p (q : Int)) (c + 49) p (k : Int)) (c + 50) p r) (c + 47) q (wr (I (c + 47) q + I (e + 3) p * I (c + 51) p)) := by
  unfold sendM
  rw [sendK_eq hh hn hpl, hk, hn, if_pos (by omega), hq]
  rfl
theorem sendM_no {I : II} {c e p h n pl k : Nat} {r : Int} (hh : I c 10 = (h : Int)) (hn : I (e + 4) p = (n : Int)) (hpl : I (c + 49) p + 1 = (pl : Int)) (hk : nextF (I (e + 6 + p)) h (n - pl) pl = k) (hkn : n ≤ k) :
    sendM I c e p r = up (up I (c + 48) p (-1)) c 14 (wr (I c 14 + I (e + 3) p * I (c + 51) p)) := by
  unfold sendM
  rw [sendK_eq hh hn hpl, hk, hn, if_neg (by omega)]
  rfl

set_option maxRecDepth 100000 in
set_option maxHeartbeats 4000000 in
theorem c_sendOn {l : Launch} {g : GV} {S : SS} {I : II} {X : XX} {c e p h : Nat} {r : Int} (hfl : l.stackTraces = false) (hC : isCnt S c e) (hW : WfE I e) (hp : p < 25) (hh : I c 10 = (h : Int)) (hh8 : h < 256) (hpl0 : -1 ≤ I (c + 49) p ∧ I (c + 49) p ≤ 8) : CE l g mX1_sendOn 1 [.ref c, .int (ii (p : Int)), .int (ii r)] S I X (some (.int (ii (unitsF I c e p)))) (sendM I c e p r) := by
  obtain ⟨n0, n1, n2, n3, n4, n5, n6, n6a, n7, n7a, n8, n8a, n9, n9a, n10, n10a, hR, hH, hF, hG, hE, hsp⟩ := id hC
  obtain ⟨y0, y1, y1a, y2, y2a, y3, y3a, y4, y4a, y5, y5a, yr⟩ := id hE
  obtain ⟨w0, w1, w2, w3, w4, w5, w6, w7, w8, w9, w10, w11, w12, w13, w14⟩ := id hW
  have w7p := w7 p hp
  obtain ⟨n, hn⟩ := Int.eq_ofNat_of_zero_le w7p.1
  obtain ⟨pl, hpl⟩ := Int.eq_ofNat_of_zero_le (show 0 ≤ I (c + 49) p + 1 by omega)
  have L : ∀ k : Nat, k ≤ 9 → nextF (I (e + 6 + p)) h (n - pl) pl = nextF (I (e + 6 + p)) h (n - k) k → pl ≤ k → V l g mX1_sendOn 1 (Zm g (QE (some (.int (ii (unitsF I c e p)))) S (sendM I c e p r) X)) 0 0 38 [some (.ref c), some (.int (ii (p : Int))), some (.int (ii r)), some (.int (ii (I (e + 3) p * I (c + 51) p))), some (.int (ii (I (e + 4) p))), some (.int (ii (k : Int))), none] [] S I X := by
    refine loop_up fun k hk ih => ?_
    intro hk9 hplk
    refine v_iload dX1_sendOn_38 rfl ?_
    refine v_iload dX1_sendOn_40 rfl ?_
    refine v_ic_ge (tgt := 113) dX1_sendOn_42 (by decide) (fun h42 => ?_) (fun h42 => ?_)
    · refine v_aload_n dX1_sendOn_113 rfl ?_
      refine v_getr dX1_sendOn_114 fr_X1_49 (by assumption) (by decide) rfl (by assumption) ?_
      refine v_iload_n dX1_sendOn_117 rfl ?_
      refine v_iconst dX1_sendOn_118 ?_
      refine v_iast dX1_sendOn_119 (by assumption) rfl (by omega) ?_
      refine v_aload_n dX1_sendOn_120 rfl ?_
      refine v_dup dX1_sendOn_121 rfl ?_
      refine v_geti dX1_sendOn_122 fr_X1_124 (by assumption) (by decide) rfl ?_
      refine v_iload_n dX1_sendOn_125 rfl ?_
      rw [up_ne (by omega)]
      refine v_iadd dX1_sendOn_126 ?_
      refine v_wr ?_
      refine v_puti dX1_sendOn_127 fr_X1_124 (by assumption) (by decide) rfl ?_
      refine v_iload_n dX1_sendOn_130 rfl ?_
      exact v_iE dX1_sendOn_131 rfl (rfl) ((sendM_no (k := k) hh hn hpl (by rw [hk9, show n - k = 0 by omega]; rfl) (by omega)).symm)
    · have hq9 := w8 p k hp (by omega)
      obtain ⟨q, hq⟩ := Int.eq_ofNat_of_zero_le hq9.1
      rw [hq] at hq9
      have hm : n - k = (n - (k + 1)) + 1 := by omega
      have yq := (yr p hp).2
      refine v_aload_n dX1_sendOn_45 rfl ?_
      refine v_getr dX1_sendOn_46 fr_X1_9 (by assumption) (by decide) rfl (by assumption) ?_
      refine v_getr dX1_sendOn_49 fr_X1_241 (by assumption) (by decide) rfl (by assumption) ?_
      refine v_iload_n dX1_sendOn_52 rfl ?_
      refine v_aald22 (j := p) dX1_sendOn_53 (by assumption) (by first | rfl | omega) (by omega) ((yr p hp).1) ?_
      refine v_iload dX1_sendOn_54 rfl ?_
      refine v_iald (j := k) dX1_sendOn_56 (by assumption) rfl (by omega) ?_
      rw [hq]
      refine v_ist6 dX1_sendOn_57 rfl ?_
      refine v_aload_n dX1_sendOn_59 rfl ?_
      refine v_geti dX1_sendOn_60 fr_X1_86 (by assumption) (by decide) rfl ?_
      rw [hh]
      refine v_iload dX1_sendOn_63 rfl ?_
      refine v_cN2 dX1_sendOn_65 nb_X1_103 lk_X1_103 (c_contains hfl (s := h) (c := q) hh8 (by omega)) (by decide) (Nat.le_of_ble_eq_true rfl) ?_ rfl
      have h01 := btI_01 h q
      refine v_if_eq (tgt := 107) dX1_sendOn_68 (by decide) (fun h68 => ?_) (fun h68 => ?_)
      · refine v_iinc5 dX1_sendOn_107 rfl ?_
        refine v_goto (tgt := 38) dX1_sendOn_110 (by decide) ?_
        have q9 := ih (k + 1) (by omega) (by omega) (by rw [hk9, hm]; exact if_pos (by rw [hq]; exact h68)) (by omega)
        exact v_fgt2 q9 (fgt_c (Or.inr rfl) (fgt_c (Or.inr rfl) (fgt_c (Or.inr rfl) (fgt_c (Or.inr rfl) (fgt_c (Or.inr rfl) (fgt_c (Or.inr rfl) (fgt_c (Or.inl rfl) (fgt_n))))))))
      · refine v_aload_n dX1_sendOn_71 rfl ?_
        refine v_getr dX1_sendOn_72 fr_X1_49 (by assumption) (by decide) rfl (by assumption) ?_
        refine v_iload_n dX1_sendOn_75 rfl ?_
        refine v_iload dX1_sendOn_76 rfl ?_
        refine v_iast (j := p) dX1_sendOn_78 (by assumption) (by first | rfl | omega) (by omega) ?_
        refine v_aload_n dX1_sendOn_79 rfl ?_
        refine v_getr dX1_sendOn_80 fr_X1_52 (by assumption) (by decide) rfl (by assumption) ?_
        refine v_iload_n dX1_sendOn_83 rfl ?_
        refine v_iload dX1_sendOn_84 rfl ?_
        refine v_iast (j := p) dX1_sendOn_86 (by assumption) (by first | rfl | omega) (by omega) ?_
        refine v_aload_n dX1_sendOn_87 rfl ?_
        refine v_getr dX1_sendOn_88 fr_X1_55 (by assumption) (by decide) rfl (by assumption) ?_
        refine v_iload_n dX1_sendOn_91 rfl ?_
        refine v_iload_n dX1_sendOn_92 rfl ?_
        refine v_iast (j := p) dX1_sendOn_93 (by assumption) (by first | rfl | omega) (by omega) ?_
        refine v_aload_n dX1_sendOn_94 rfl ?_
        refine v_getr dX1_sendOn_95 fr_X1_45 (by assumption) (by decide) rfl (by assumption) ?_
        refine v_iload dX1_sendOn_98 rfl ?_
        refine v_dup2 dX1_sendOn_100 rfl rfl ?_
        refine v_iald (j := q) dX1_sendOn_101 (by assumption) rfl (by omega) ?_
        rw [up_ne (by omega), up_ne (by omega), up_ne (by omega)]
        refine v_iload_n dX1_sendOn_102 rfl ?_
        refine v_iadd dX1_sendOn_103 ?_
        refine v_wr ?_
        refine v_iast (j := q) dX1_sendOn_104 (by assumption) (by first | rfl | omega) (by omega) ?_
        refine v_iload_n dX1_sendOn_105 rfl ?_
        exact v_iE dX1_sendOn_106 rfl (rfl) ((sendM_yes (k := k) hh hn hpl (by rw [hk9, hm]; exact if_neg (by rw [hq]; exact h68)) (by omega) hq).symm)
  refine v_startE hfl rfl (by decide) (Nat.le_of_ble_eq_true rfl) (ls := [some (.ref c), some (.int (ii (p : Int))), some (.int (ii r)), none, none, none, none]) rfl ?_
  refine v_aload_n dX1_sendOn_0 rfl ?_
  refine v_getr dX1_sendOn_1 fr_X1_9 (by assumption) (by decide) rfl (by assumption) ?_
  refine v_getr dX1_sendOn_4 fr_X1_227 (by assumption) (by decide) rfl (by assumption) ?_
  refine v_iload_n dX1_sendOn_7 rfl ?_
  refine v_iald (j := p) dX1_sendOn_8 (by assumption) (by first | rfl | omega) (by omega) ?_
  refine v_aload_n dX1_sendOn_9 rfl ?_
  refine v_getr dX1_sendOn_10 fr_X1_58 (by assumption) (by decide) rfl (by assumption) ?_
  refine v_iload_n dX1_sendOn_13 rfl ?_
  refine v_iald (j := p) dX1_sendOn_14 (by assumption) (by first | rfl | omega) (by omega) ?_
  refine v_imul dX1_sendOn_15 ?_
  refine v_istn3 dX1_sendOn_16 rfl ?_
  refine v_aload_n dX1_sendOn_17 rfl ?_
  refine v_getr dX1_sendOn_18 fr_X1_9 (by assumption) (by decide) rfl (by assumption) ?_
  refine v_getr dX1_sendOn_21 fr_X1_238 (by assumption) (by decide) rfl (by assumption) ?_
  refine v_iload_n dX1_sendOn_24 rfl ?_
  refine v_iald (j := p) dX1_sendOn_25 (by assumption) (by first | rfl | omega) (by omega) ?_
  refine v_ist4 dX1_sendOn_26 rfl ?_
  refine v_aload_n dX1_sendOn_28 rfl ?_
  refine v_getr dX1_sendOn_29 fr_X1_52 (by assumption) (by decide) rfl (by assumption) ?_
  refine v_iload_n dX1_sendOn_32 rfl ?_
  refine v_iald (j := p) dX1_sendOn_33 (by assumption) (by first | rfl | omega) (by omega) ?_
  refine v_iconst dX1_sendOn_34 ?_
  refine v_iadd dX1_sendOn_35 ?_
  rw [hpl]
  refine v_ist5 dX1_sendOn_36 rfl ?_
  exact L pl (by omega) rfl (Nat.le_refl _)

def standF (I : II) (e k : Nat) : Int := if (k : Int) < I e 0 ∧ btI (I e 2).toNat k = 0 then 1 else 0
def orF (s k : Nat) (b : Int) : Nat := if b = 0 then s else s ||| 2 ^ k
def hopF (I : II) (e : Nat) : Nat → Nat
  | 0 => 0
  | k + 1 => orF (hopF I e k) k (standF I e k)
theorem hopF_lt (I : II) (e : Nat) : ∀ k, k ≤ 8 → hopF I e k < 256
  | 0, _ => by
    show (0 : Nat) < 256
    decide
  | k + 1, h => by
    have ih := hopF_lt I e k (by omega)
    show orF (hopF I e k) k (standF I e k) < 256
    unfold orF
    split
    · exact ih
    · exact or_lt _ ih k (by omega)
theorem or_z : ∀ s : Nat, s < 256 → ii ((s : Nat) : Int) ||| ii 0 = ii ((s : Nat) : Int) := by decide +kernel
def stS (I : II) (c e k : Nat) (J : II) : II := up (up (up (up (up (up J c 10 (hopF I e (k + 1))) (c + 1 + 2) k (if standF I e k = 0 then 3 else 0)) (c + 47) k 0) (c + 15 + 1) k (-1)) (c + 15 + 2) k 0) (c + 15 + 3) k (-1)
def startCM (I : II) (c e : Nat) : II := foldUp (stS I c e) (up (up (up I c 10 0) c 11 0) (c + 1) 1 0) 8
theorem stS_e {I : II} {c e x : Nat} (h1 : x < c) : ∀ k, foldUp (stS I c e) (up (up (up I c 10 0) c 11 0) (c + 1) 1 0) k x = I x
  | 0 => by
    show up (up (up I c 10 0) c 11 0) (c + 1) 1 0 x = I x
    rw [up_ne (by omega), up_ne (by omega), up_ne (by omega)]
  | k + 1 => by
    show stS I c e k _ x = I x
    unfold stS
    rw [up_ne (by omega), up_ne (by omega), up_ne (by omega), up_ne (by omega), up_ne (by omega), up_ne (by omega)]
    exact stS_e h1 k
theorem stS_h {I : II} {c e : Nat} : ∀ k, foldUp (stS I c e) (up (up (up I c 10 0) c 11 0) (c + 1) 1 0) k c 10 = (hopF I e k : Int)
  | 0 => by
    show up (up (up I c 10 0) c 11 0) (c + 1) 1 0 c 10 = _
    rw [up_ne (by omega), up_nk (by omega), up_eq]
    rfl
  | k + 1 => by
    show stS I c e k _ c 10 = _
    unfold stS
    rw [up_ne (by omega), up_ne (by omega), up_ne (by omega), up_ne (by omega), up_ne (by omega), up_eq]

set_option maxRecDepth 100000 in
set_option maxHeartbeats 4000000 in
theorem c_startCandidates {l : Launch} {g : GV} {S : SS} {I : II} {X : XX} {c e : Nat} (hfl : l.stackTraces = false) (hC : isCnt S c e) (hW : WfE I e) : CE l g mX1_startCandidates 1 [.ref c] S I X none (startCM I c e) := by
  obtain ⟨n0, n1, n2, n3, n4, n5, n6, n6a, n7, n7a, n8, n8a, n9, n9a, n10, n10a, hR, hH, hF, hG, hE, hsp⟩ := id hC
  obtain ⟨r0, r1, r1a, r2, r2a, r3, r3a, rr⟩ := id hR
  obtain ⟨f0, f1, f1a, f2, f2a, f3, f3a⟩ := id hF
  obtain ⟨l0, ⟨l1, l1a⟩, ⟨l2, l2a⟩, ⟨l3, l3a⟩, ⟨l4, l4a⟩, ⟨l5, l5a⟩, ⟨l6, l6a⟩, ⟨l7, l7a⟩, ⟨l8, l8a⟩, lr, ⟨l9, l9a⟩, lw⟩ := id hG
  obtain ⟨y0, y1, y1a, y2, y2a, y3, y3a, y4, y4a, y5, y5a, yr⟩ := id hE
  obtain ⟨w0, w1, w2, w3, w4, w5, w6, w7, w8, w9, w10, w11, w12, w13, w14⟩ := id hW
  obtain ⟨wd, hwd⟩ := Int.eq_ofNat_of_zero_le w4
  have L : ∀ k : Nat, k ≤ 8 → V l g mX1_startCandidates 1 (Zm g (QE none S (startCM I c e) X)) 0 0 20 [some (.ref c), some (.int (ii (k : Int))), none] [] S (foldUp (stS I c e) (up (up (up I c 10 0) c 11 0) (c + 1) 1 0) k) X := by
    refine loop_up fun k hk ih => ?_
    have hl8 := hopF_lt I e k hk
    refine v_iload_n dX1_startCandidates_20 rfl ?_
    refine v_bipush dX1_startCandidates_21 (by decide) ?_
    refine v_ic_ge (tgt := 138) dX1_startCandidates_23 (by decide) (fun h23 => ?_) (fun h23 => ?_)
    · obtain rfl : k = 8 := by omega
      exact v_vE dX1_startCandidates_138 rfl (rfl)
    · refine v_iload_n dX1_startCandidates_26 rfl ?_
      refine v_aload_n dX1_startCandidates_27 rfl ?_
      refine v_getr dX1_startCandidates_28 fr_X1_9 (by assumption) (by decide) rfl (by assumption) ?_
      refine v_geti dX1_startCandidates_31 fr_X1_95 (by assumption) (by decide) rfl ?_
      rw [stS_e (by omega) k]
      refine v_ic_ge (tgt := 55) dX1_startCandidates_34 (by decide) (fun h34 => ?_) (fun h34 => ?_)
      · have hsd : standF I e k = 0 := by unfold standF; rw [if_neg (by omega)]
        refine v_iconst dX1_startCandidates_55 ?_
        refine v_istn2 dX1_startCandidates_56 rfl ?_
        refine v_aload_n dX1_startCandidates_57 rfl ?_
        refine v_dup dX1_startCandidates_58 rfl ?_
        refine v_geti dX1_startCandidates_59 fr_X1_86 (by assumption) (by decide) rfl ?_
        rw [stS_h k]
        refine v_iload_n dX1_startCandidates_62 rfl ?_
        refine v_if_eq (tgt := 72) dX1_startCandidates_63 (by decide) (fun h63 => ?_) (fun h63 => ?_)
        · refine v_iconst dX1_startCandidates_72 ?_
          refine v_ior (z := ((hopF I e (k + 1) : Nat) : Int)) dX1_startCandidates_73 (by rw [or_z _ hl8]; congr 2; show _ = orF _ _ _; unfold orF; rw [hsd]; rfl) ?_
          refine v_puti dX1_startCandidates_74 fr_X1_86 (by assumption) (by decide) rfl ?_
          refine v_aload_n dX1_startCandidates_77 rfl ?_
          refine v_getr dX1_startCandidates_78 fr_X1_18 (by assumption) (by decide) rfl (by assumption) ?_
          refine v_getr dX1_startCandidates_81 fr_X1_107 (by assumption) (by decide) rfl (by assumption) ?_
          refine v_iload_n dX1_startCandidates_84 rfl ?_
          refine v_iload_n dX1_startCandidates_85 rfl ?_
          refine v_if_eq (tgt := 93) dX1_startCandidates_86 (by decide) (fun h86 => ?_) (fun h86 => ?_)
          · refine v_iconst dX1_startCandidates_93 ?_
            refine v_iast (j := k) dX1_startCandidates_94 (by assumption) (by first | rfl | omega) (by omega) ?_
            refine v_aload_n dX1_startCandidates_95 rfl ?_
            refine v_getr dX1_startCandidates_96 fr_X1_45 (by assumption) (by decide) rfl (by assumption) ?_
            refine v_iload_n dX1_startCandidates_99 rfl ?_
            refine v_iconst dX1_startCandidates_100 ?_
            refine v_iast (j := k) dX1_startCandidates_101 (by assumption) (by first | rfl | omega) (by omega) ?_
            refine v_aload_n dX1_startCandidates_102 rfl ?_
            refine v_getr dX1_startCandidates_103 fr_X1_34 (by assumption) (by decide) rfl (by assumption) ?_
            refine v_getr dX1_startCandidates_106 fr_X1_110 (by assumption) (by decide) rfl (by assumption) ?_
            refine v_iload_n dX1_startCandidates_109 rfl ?_
            refine v_iconst dX1_startCandidates_110 ?_
            refine v_iast (j := k) dX1_startCandidates_111 (by assumption) (by first | rfl | omega) (by omega) ?_
            refine v_aload_n dX1_startCandidates_112 rfl ?_
            refine v_getr dX1_startCandidates_113 fr_X1_34 (by assumption) (by decide) rfl (by assumption) ?_
            refine v_getr dX1_startCandidates_116 fr_X1_113 (by assumption) (by decide) rfl (by assumption) ?_
            refine v_iload_n dX1_startCandidates_119 rfl ?_
            refine v_iconst dX1_startCandidates_120 ?_
            refine v_iast (j := k) dX1_startCandidates_121 (by assumption) (by first | rfl | omega) (by omega) ?_
            refine v_aload_n dX1_startCandidates_122 rfl ?_
            refine v_getr dX1_startCandidates_123 fr_X1_34 (by assumption) (by decide) rfl (by assumption) ?_
            refine v_getr dX1_startCandidates_126 fr_X1_116 (by assumption) (by decide) rfl (by assumption) ?_
            refine v_iload_n dX1_startCandidates_129 rfl ?_
            refine v_iconst dX1_startCandidates_130 ?_
            refine v_iast (j := k) dX1_startCandidates_131 (by assumption) (by first | rfl | omega) (by omega) ?_
            generalize hJJ : up (up (up (up (up (up _ c 10 _) _ k _) (c + 47) k 0) _ k _) _ k _) _ k _ = JJ
            have hJ9 : foldUp (stS I c e) (up (up (up I c 10 0) c 11 0) (c + 1) 1 0) (k + 1) = JJ := by rw [← hJJ]; show stS I c e k _ = _; unfold stS; rw [if_pos hsd]
            refine v_iinc1 dX1_startCandidates_132 rfl ?_
            refine v_goto (tgt := 20) dX1_startCandidates_135 (by decide) ?_
            have q9 := ih (k + 1) (by omega) (by omega)
            rw [hJ9] at q9
            exact v_fgt2 q9 (fgt_c (Or.inr rfl) (fgt_c (Or.inr rfl) (fgt_c (Or.inl rfl) (fgt_n))))
          · exfalso; omega
        · exfalso; omega
      · refine v_aload_n dX1_startCandidates_37 rfl ?_
        refine v_getr dX1_startCandidates_38 fr_X1_9 (by assumption) (by decide) rfl (by assumption) ?_
        refine v_geti dX1_startCandidates_41 fr_X1_100 (by assumption) (by decide) rfl ?_
        rw [stS_e (by omega) k, hwd]
        refine v_iload_n dX1_startCandidates_44 rfl ?_
        refine v_cN2 dX1_startCandidates_45 nb_X1_103 lk_X1_103 (c_contains hfl (s := wd) (c := k) (by omega) (by omega)) (by decide) (Nat.le_of_ble_eq_true rfl) ?_ rfl
        have h01 := btI_01 wd k
        refine v_if_ne (tgt := 55) dX1_startCandidates_48 (by decide) (fun h48 => ?_) (fun h48 => ?_)
        · have hsd : standF I e k = 0 := by unfold standF; rw [show (I e 2).toNat = wd by rw [hwd]; rfl]; rw [if_neg (by omega)]
          refine v_iconst dX1_startCandidates_55 ?_
          refine v_istn2 dX1_startCandidates_56 rfl ?_
          refine v_aload_n dX1_startCandidates_57 rfl ?_
          refine v_dup dX1_startCandidates_58 rfl ?_
          refine v_geti dX1_startCandidates_59 fr_X1_86 (by assumption) (by decide) rfl ?_
          rw [stS_h k]
          refine v_iload_n dX1_startCandidates_62 rfl ?_
          refine v_if_eq (tgt := 72) dX1_startCandidates_63 (by decide) (fun h63 => ?_) (fun h63 => ?_)
          · refine v_iconst dX1_startCandidates_72 ?_
            refine v_ior (z := ((hopF I e (k + 1) : Nat) : Int)) dX1_startCandidates_73 (by rw [or_z _ hl8]; congr 2; show _ = orF _ _ _; unfold orF; rw [hsd]; rfl) ?_
            refine v_puti dX1_startCandidates_74 fr_X1_86 (by assumption) (by decide) rfl ?_
            refine v_aload_n dX1_startCandidates_77 rfl ?_
            refine v_getr dX1_startCandidates_78 fr_X1_18 (by assumption) (by decide) rfl (by assumption) ?_
            refine v_getr dX1_startCandidates_81 fr_X1_107 (by assumption) (by decide) rfl (by assumption) ?_
            refine v_iload_n dX1_startCandidates_84 rfl ?_
            refine v_iload_n dX1_startCandidates_85 rfl ?_
            refine v_if_eq (tgt := 93) dX1_startCandidates_86 (by decide) (fun h86 => ?_) (fun h86 => ?_)
            · refine v_iconst dX1_startCandidates_93 ?_
              refine v_iast (j := k) dX1_startCandidates_94 (by assumption) (by first | rfl | omega) (by omega) ?_
              refine v_aload_n dX1_startCandidates_95 rfl ?_
              refine v_getr dX1_startCandidates_96 fr_X1_45 (by assumption) (by decide) rfl (by assumption) ?_
              refine v_iload_n dX1_startCandidates_99 rfl ?_
              refine v_iconst dX1_startCandidates_100 ?_
              refine v_iast (j := k) dX1_startCandidates_101 (by assumption) (by first | rfl | omega) (by omega) ?_
              refine v_aload_n dX1_startCandidates_102 rfl ?_
              refine v_getr dX1_startCandidates_103 fr_X1_34 (by assumption) (by decide) rfl (by assumption) ?_
              refine v_getr dX1_startCandidates_106 fr_X1_110 (by assumption) (by decide) rfl (by assumption) ?_
              refine v_iload_n dX1_startCandidates_109 rfl ?_
              refine v_iconst dX1_startCandidates_110 ?_
              refine v_iast (j := k) dX1_startCandidates_111 (by assumption) (by first | rfl | omega) (by omega) ?_
              refine v_aload_n dX1_startCandidates_112 rfl ?_
              refine v_getr dX1_startCandidates_113 fr_X1_34 (by assumption) (by decide) rfl (by assumption) ?_
              refine v_getr dX1_startCandidates_116 fr_X1_113 (by assumption) (by decide) rfl (by assumption) ?_
              refine v_iload_n dX1_startCandidates_119 rfl ?_
              refine v_iconst dX1_startCandidates_120 ?_
              refine v_iast (j := k) dX1_startCandidates_121 (by assumption) (by first | rfl | omega) (by omega) ?_
              refine v_aload_n dX1_startCandidates_122 rfl ?_
              refine v_getr dX1_startCandidates_123 fr_X1_34 (by assumption) (by decide) rfl (by assumption) ?_
              refine v_getr dX1_startCandidates_126 fr_X1_116 (by assumption) (by decide) rfl (by assumption) ?_
              refine v_iload_n dX1_startCandidates_129 rfl ?_
              refine v_iconst dX1_startCandidates_130 ?_
              refine v_iast (j := k) dX1_startCandidates_131 (by assumption) (by first | rfl | omega) (by omega) ?_
              generalize hJJ : up (up (up (up (up (up _ c 10 _) _ k _) (c + 47) k 0) _ k _) _ k _) _ k _ = JJ
              have hJ9 : foldUp (stS I c e) (up (up (up I c 10 0) c 11 0) (c + 1) 1 0) (k + 1) = JJ := by rw [← hJJ]; show stS I c e k _ = _; unfold stS; rw [if_pos hsd]
              refine v_iinc1 dX1_startCandidates_132 rfl ?_
              refine v_goto (tgt := 20) dX1_startCandidates_135 (by decide) ?_
              have q9 := ih (k + 1) (by omega) (by omega)
              rw [hJ9] at q9
              exact v_fgt2 q9 (fgt_c (Or.inr rfl) (fgt_c (Or.inr rfl) (fgt_c (Or.inl rfl) (fgt_n))))
            · exfalso; omega
          · exfalso; omega
        · have hsd : standF I e k = 1 := by unfold standF; rw [show (I e 2).toNat = wd by rw [hwd]; rfl]; rw [if_pos (by omega)]
          refine v_iconst dX1_startCandidates_51 ?_
          refine v_goto (tgt := 56) dX1_startCandidates_52 (by decide) ?_
          refine v_istn2 dX1_startCandidates_56 rfl ?_
          refine v_aload_n dX1_startCandidates_57 rfl ?_
          refine v_dup dX1_startCandidates_58 rfl ?_
          refine v_geti dX1_startCandidates_59 fr_X1_86 (by assumption) (by decide) rfl ?_
          rw [stS_h k]
          refine v_iload_n dX1_startCandidates_62 rfl ?_
          refine v_if_eq (tgt := 72) dX1_startCandidates_63 (by decide) (fun h63 => ?_) (fun h63 => ?_)
          · exfalso; omega
          · refine v_iconst dX1_startCandidates_66 ?_
            refine v_iload_n dX1_startCandidates_67 rfl ?_
            refine v_ishl (z := ((2 ^ k : Nat) : Int)) dX1_startCandidates_68 (shl_b k (by omega)) ?_
            refine v_goto (tgt := 73) dX1_startCandidates_69 (by decide) ?_
            refine v_ior (z := ((hopF I e (k + 1) : Nat) : Int)) dX1_startCandidates_73 (by rw [or_b _ hl8 k (by omega)]; congr 2; show _ = orF _ _ _; unfold orF; rw [hsd]; rfl) ?_
            refine v_puti dX1_startCandidates_74 fr_X1_86 (by assumption) (by decide) rfl ?_
            refine v_aload_n dX1_startCandidates_77 rfl ?_
            refine v_getr dX1_startCandidates_78 fr_X1_18 (by assumption) (by decide) rfl (by assumption) ?_
            refine v_getr dX1_startCandidates_81 fr_X1_107 (by assumption) (by decide) rfl (by assumption) ?_
            refine v_iload_n dX1_startCandidates_84 rfl ?_
            refine v_iload_n dX1_startCandidates_85 rfl ?_
            refine v_if_eq (tgt := 93) dX1_startCandidates_86 (by decide) (fun h86 => ?_) (fun h86 => ?_)
            · exfalso; omega
            · refine v_iconst dX1_startCandidates_89 ?_
              refine v_goto (tgt := 94) dX1_startCandidates_90 (by decide) ?_
              refine v_iast (j := k) dX1_startCandidates_94 (by assumption) (by first | rfl | omega) (by omega) ?_
              refine v_aload_n dX1_startCandidates_95 rfl ?_
              refine v_getr dX1_startCandidates_96 fr_X1_45 (by assumption) (by decide) rfl (by assumption) ?_
              refine v_iload_n dX1_startCandidates_99 rfl ?_
              refine v_iconst dX1_startCandidates_100 ?_
              refine v_iast (j := k) dX1_startCandidates_101 (by assumption) (by first | rfl | omega) (by omega) ?_
              refine v_aload_n dX1_startCandidates_102 rfl ?_
              refine v_getr dX1_startCandidates_103 fr_X1_34 (by assumption) (by decide) rfl (by assumption) ?_
              refine v_getr dX1_startCandidates_106 fr_X1_110 (by assumption) (by decide) rfl (by assumption) ?_
              refine v_iload_n dX1_startCandidates_109 rfl ?_
              refine v_iconst dX1_startCandidates_110 ?_
              refine v_iast (j := k) dX1_startCandidates_111 (by assumption) (by first | rfl | omega) (by omega) ?_
              refine v_aload_n dX1_startCandidates_112 rfl ?_
              refine v_getr dX1_startCandidates_113 fr_X1_34 (by assumption) (by decide) rfl (by assumption) ?_
              refine v_getr dX1_startCandidates_116 fr_X1_113 (by assumption) (by decide) rfl (by assumption) ?_
              refine v_iload_n dX1_startCandidates_119 rfl ?_
              refine v_iconst dX1_startCandidates_120 ?_
              refine v_iast (j := k) dX1_startCandidates_121 (by assumption) (by first | rfl | omega) (by omega) ?_
              refine v_aload_n dX1_startCandidates_122 rfl ?_
              refine v_getr dX1_startCandidates_123 fr_X1_34 (by assumption) (by decide) rfl (by assumption) ?_
              refine v_getr dX1_startCandidates_126 fr_X1_116 (by assumption) (by decide) rfl (by assumption) ?_
              refine v_iload_n dX1_startCandidates_129 rfl ?_
              refine v_iconst dX1_startCandidates_130 ?_
              refine v_iast (j := k) dX1_startCandidates_131 (by assumption) (by first | rfl | omega) (by omega) ?_
              generalize hJJ : up (up (up (up (up (up _ c 10 _) _ k _) (c + 47) k 0) _ k _) _ k _) _ k _ = JJ
              have hJ9 : foldUp (stS I c e) (up (up (up I c 10 0) c 11 0) (c + 1) 1 0) (k + 1) = JJ := by rw [← hJJ]; show stS I c e k _ = _; unfold stS; rw [if_neg (show ¬ standF I e k = 0 by rw [hsd]; decide)]
              refine v_iinc1 dX1_startCandidates_132 rfl ?_
              refine v_goto (tgt := 20) dX1_startCandidates_135 (by decide) ?_
              have q9 := ih (k + 1) (by omega) (by omega)
              rw [hJ9] at q9
              exact v_fgt2 q9 (fgt_c (Or.inr rfl) (fgt_c (Or.inr rfl) (fgt_c (Or.inl rfl) (fgt_n))))
  refine v_startE hfl rfl (by decide) (Nat.le_of_ble_eq_true rfl) (ls := [some (.ref c), none, none]) rfl ?_
  refine v_aload_n dX1_startCandidates_0 rfl ?_
  refine v_iconst dX1_startCandidates_1 ?_
  refine v_puti dX1_startCandidates_2 fr_X1_86 (by assumption) (by decide) rfl ?_
  refine v_aload_n dX1_startCandidates_5 rfl ?_
  refine v_iconst dX1_startCandidates_6 ?_
  refine v_puti dX1_startCandidates_7 fr_X1_89 (by assumption) (by decide) rfl ?_
  refine v_aload_n dX1_startCandidates_10 rfl ?_
  refine v_getr dX1_startCandidates_11 fr_X1_18 (by assumption) (by decide) rfl (by assumption) ?_
  refine v_iconst dX1_startCandidates_14 ?_
  refine v_puti dX1_startCandidates_15 fr_X1_92 (by assumption) (by decide) rfl ?_
  refine v_iconst dX1_startCandidates_18 ?_
  refine v_istn1 dX1_startCandidates_19 rfl ?_
  exact L 0 (Nat.zero_le _)
