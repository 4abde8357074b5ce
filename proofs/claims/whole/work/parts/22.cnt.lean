/-! COUNTING: its small methods -/
/-- from place k on, the first candidate of a set; where there is none, the length -/
def nextF (f : Nat → Int) (h : Nat) : Nat → Nat → Nat
  | 0, k => k
  | n + 1, k => if btI h (f k).toNat = 0 then nextF f h n (k + 1) else k
def unitsF (I : II) (c e p : Nat) : Int := I (e + 3) p * I (c + 51) p
def sendK (I : II) (c e p : Nat) : Nat := nextF (I (e + 6 + p)) (I c 10).toNat ((I (e + 4) p).toNat - (I (c + 49) p + 1).toNat) (I (c + 49) p + 1).toNat
def sendM (I : II) (c e p : Nat) (r : Int) : II :=
  if (sendK I c e p : Int) < I (e + 4) p then up (up (up (up I (c + 48) p (I (e + 6 + p) (sendK I c e p))) (c + 49) p (sendK I c e p)) (c + 50) p r) (c + 47) (I (e + 6 + p) (sendK I c e p)).toNat (wr (I (c + 47) (I (e + 6 + p) (sendK I c e p)).toNat + unitsF I c e p))
  else up (up I (c + 48) p (-1)) c 14 (wr (I c 14 + unitsF I c e p))

theorem sendK_eq {I : II} {c e p h n pl : Nat} (hh : I c 10 = (h : Int)) (hn : I (e + 4) p = (n : Int)) (hpl : I (c + 49) p + 1 = (pl : Int)) : sendK I c e p = nextF (I (e + 6 + p)) h (n - pl) pl := by
  unfold sendK
  rw [hh, hn, hpl]
  simp only [Int.toNat_natCast]
theorem sendM_yes {I : II} {c e p h n pl k q : Nat} {r : Int} (hh : I c 10 = (h : Int)) (hn : I (e + 4) p = (n : Int)) (hpl : I (c + 49) p + 1 = (pl : Int)) (hk : nextF (I (e + 6 + p)) h (n - pl) pl = k) (hkn : k < n) (hq : I (e + 6 + p) k = (q : Int)) :
    sendM I c e p r = up (up (up (up I (c + 48) p (q : Int)) (c + 49) p (k : Int)) (c + 50) p r) (c + 47) q (wr (I (c + 47) q + I (e + 3) p * I (c + 51) p)) := by
  unfold sendM
  rw [sendK_eq hh hn hpl, hk, hn, if_pos (by omega), hq]
  rfl
theorem sendM_no {I : II} {c e p h n pl k : Nat} {r : Int} (hh : I c 10 = (h : Int)) (hn : I (e + 4) p = (n : Int)) (hpl : I (c + 49) p + 1 = (pl : Int)) (hk : nextF (I (e + 6 + p)) h (n - pl) pl = k) (hkn : n ≤ k) :
    sendM I c e p r = up (up I (c + 48) p (-1)) c 14 (wr (I c 14 + I (e + 3) p * I (c + 51) p)) := by
  unfold sendM
  rw [sendK_eq hh hn hpl, hk, hn, if_neg (by omega)]
  rfl

set_option maxRecDepth 100000 in
set_option maxHeartbeats 4000000 in
theorem c_sendOn {l : Launch} {g : GV} {S : SS} {I : II} {X : XX} {c e p h : Nat} {r : Int} (hfl : l.stackTraces = false) (hC : isCnt S c e) (hW : WfE I e) (hp : p < 25) (hh : I c 10 = (h : Int)) (hh8 : h < 256) (hpl0 : -1 ≤ I (c + 49) p ∧ I (c + 49) p ≤ 8) : CE l g mX1_sendOn 1 [.ref c, .int (ii (p : Int)), .int (ii r)] S I X (some (.int (ii (unitsF I c e p)))) (sendM I c e p r) := by
  obtain ⟨n0, n1, n2, n3, n4, n5, n6, n6a, n7, n7a, n8, n8a, n9, n9a, n10, n10a, hR, hH, hF, hG, hE, hsp⟩ := id hC
  obtain ⟨y0, y1, y1a, y2, y2a, y3, y3a, y4, y4a, y5, y5a, yr⟩ := id hE
  obtain ⟨w0, w1, w2, w3, w4, w5, w6, w7, w8, w9, w10, w11, w12, w13, w14⟩ := id hW
  have w7p := w7 p hp
  obtain ⟨n, hn⟩ := Int.eq_ofNat_of_zero_le w7p.1
  obtain ⟨pl, hpl⟩ := Int.eq_ofNat_of_zero_le (show 0 ≤ I (c + 49) p + 1 by omega)
  have L : ∀ k : Nat, k ≤ 9 → nextF (I (e + 6 + p)) h (n - pl) pl = nextF (I (e + 6 + p)) h (n - k) k → pl ≤ k → V l g mX1_sendOn 1 (Zm g (QE (some (.int (ii (unitsF I c e p)))) S (sendM I c e p r) X)) 0 0 38 [some (.ref c), some (.int (ii (p : Int))), some (.int (ii r)), some (.int (ii (I (e + 3) p * I (c + 51) p))), some (.int (ii (I (e + 4) p))), some (.int (ii (k : Int))), none] [] S I X := by
    refine loop_up fun k hk ih => ?_
    intro hk9 hplk
    refine v_iload dX1_sendOn_38 rfl ?_
    refine v_iload dX1_sendOn_40 rfl ?_
    refine v_ic_ge (tgt := 113) dX1_sendOn_42 (by decide) (fun h42 => ?_) (fun h42 => ?_)
    · refine v_aload_n dX1_sendOn_113 rfl ?_
      refine v_getr dX1_sendOn_114 fr_X1_49 (by assumption) (by decide) rfl (by assumption) ?_
      refine v_iload_n dX1_sendOn_117 rfl ?_
      refine v_iconst dX1_sendOn_118 ?_
      refine v_iast dX1_sendOn_119 (by assumption) rfl (by omega) ?_
      refine v_aload_n dX1_sendOn_120 rfl ?_
      refine v_dup dX1_sendOn_121 rfl ?_
      refine v_geti dX1_sendOn_122 fr_X1_124 (by assumption) (by decide) rfl ?_
      refine v_iload_n dX1_sendOn_125 rfl ?_
      rw [up_ne (by omega)]
      refine v_iadd dX1_sendOn_126 ?_
      refine v_wr ?_
      refine v_puti dX1_sendOn_127 fr_X1_124 (by assumption) (by decide) rfl ?_
      refine v_iload_n dX1_sendOn_130 rfl ?_
      exact v_iE dX1_sendOn_131 rfl (rfl) ((sendM_no (k := k) hh hn hpl (by rw [hk9, show n - k = 0 by omega]; rfl) (by omega)).symm)
    · have hq9 := w8 p k hp (by omega)
      obtain ⟨q, hq⟩ := Int.eq_ofNat_of_zero_le hq9.1
      rw [hq] at hq9
      have hm : n - k = (n - (k + 1)) + 1 := by omega
      have yq := (yr p hp).2
      refine v_aload_n dX1_sendOn_45 rfl ?_
      refine v_getr dX1_sendOn_46 fr_X1_9 (by assumption) (by decide) rfl (by assumption) ?_
      refine v_getr dX1_sendOn_49 fr_X1_241 (by assumption) (by decide) rfl (by assumption) ?_
      refine v_iload_n dX1_sendOn_52 rfl ?_
      refine v_aald22 (j := p) dX1_sendOn_53 (by assumption) (by first | rfl | omega) (by omega) ((yr p hp).1) ?_
      refine v_iload dX1_sendOn_54 rfl ?_
      refine v_iald (j := k) dX1_sendOn_56 (by assumption) rfl (by omega) ?_
      rw [hq]
      refine v_ist6 dX1_sendOn_57 rfl ?_
      refine v_aload_n dX1_sendOn_59 rfl ?_
      refine v_geti dX1_sendOn_60 fr_X1_86 (by assumption) (by decide) rfl ?_
      rw [hh]
      refine v_iload dX1_sendOn_63 rfl ?_
      refine v_cN2 dX1_sendOn_65 nb_X1_103 lk_X1_103 (c_contains hfl (s := h) (c := q) hh8 (by omega)) (by decide) (Nat.le_of_ble_eq_true rfl) ?_ rfl
      have h01 := btI_01 h q
      refine v_if_eq (tgt := 107) dX1_sendOn_68 (by decide) (fun h68 => ?_) (fun h68 => ?_)
      · refine v_iinc5 dX1_sendOn_107 rfl ?_
        refine v_goto (tgt := 38) dX1_sendOn_110 (by decide) ?_
        have q9 := ih (k + 1) (by omega) (by omega) (by rw [hk9, hm]; exact if_pos (by rw [hq]; exact h68)) (by omega)
        exact v_fgt2 q9 (fgt_c (Or.inr rfl) (fgt_c (Or.inr rfl) (fgt_c (Or.inr rfl) (fgt_c (Or.inr rfl) (fgt_c (Or.inr rfl) (fgt_c (Or.inr rfl) (fgt_c (Or.inl rfl) (fgt_n))))))))
      · refine v_aload_n dX1_sendOn_71 rfl ?_
        refine v_getr dX1_sendOn_72 fr_X1_49 (by assumption) (by decide) rfl (by assumption) ?_
        refine v_iload_n dX1_sendOn_75 rfl ?_
        refine v_iload dX1_sendOn_76 rfl ?_
        refine v_iast (j := p) dX1_sendOn_78 (by assumption) (by first | rfl | omega) (by omega) ?_
        refine v_aload_n dX1_sendOn_79 rfl ?_
        refine v_getr dX1_sendOn_80 fr_X1_52 (by assumption) (by decide) rfl (by assumption) ?_
        refine v_iload_n dX1_sendOn_83 rfl ?_
        refine v_iload dX1_sendOn_84 rfl ?_
        refine v_iast (j := p) dX1_sendOn_86 (by assumption) (by first | rfl | omega) (by omega) ?_
        refine v_aload_n dX1_sendOn_87 rfl ?_
        refine v_getr dX1_sendOn_88 fr_X1_55 (by assumption) (by decide) rfl (by assumption) ?_
        refine v_iload_n dX1_sendOn_91 rfl ?_
        refine v_iload_n dX1_sendOn_92 rfl ?_
        refine v_iast (j := p) dX1_sendOn_93 (by assumption) (by first | rfl | omega) (by omega) ?_
        refine v_aload_n dX1_sendOn_94 rfl ?_
        refine v_getr dX1_sendOn_95 fr_X1_45 (by assumption) (by decide) rfl (by assumption) ?_
        refine v_iload dX1_sendOn_98 rfl ?_
        refine v_dup2 dX1_sendOn_100 rfl rfl ?_
        refine v_iald (j := q) dX1_sendOn_101 (by assumption) rfl (by omega) ?_
        rw [up_ne (by omega), up_ne (by omega), up_ne (by omega)]
        refine v_iload_n dX1_sendOn_102 rfl ?_
        refine v_iadd dX1_sendOn_103 ?_
        refine v_wr ?_
        refine v_iast (j := q) dX1_sendOn_104 (by assumption) (by first | rfl | omega) (by omega) ?_
        refine v_iload_n dX1_sendOn_105 rfl ?_
        exact v_iE dX1_sendOn_106 rfl (rfl) ((sendM_yes (k := k) hh hn hpl (by rw [hk9, hm]; exact if_neg (by rw [hq]; exact h68)) (by omega) hq).symm)
  refine v_startE hfl rfl (by decide) (Nat.le_of_ble_eq_true rfl) (ls := [some (.ref c), some (.int (ii (p : Int))), some (.int (ii r)), none, none, none, none]) rfl ?_
  refine v_aload_n dX1_sendOn_0 rfl ?_
  refine v_getr dX1_sendOn_1 fr_X1_9 (by assumption) (by decide) rfl (by assumption) ?_
  refine v_getr dX1_sendOn_4 fr_X1_227 (by assumption) (by decide) rfl (by assumption) ?_
  refine v_iload_n dX1_sendOn_7 rfl ?_
  refine v_iald (j := p) dX1_sendOn_8 (by assumption) (by first | rfl | omega) (by omega) ?_
  refine v_aload_n dX1_sendOn_9 rfl ?_
  refine v_getr dX1_sendOn_10 fr_X1_58 (by assumption) (by decide) rfl (by assumption) ?_
  refine v_iload_n dX1_sendOn_13 rfl ?_
  refine v_iald (j := p) dX1_sendOn_14 (by assumption) (by first | rfl | omega) (by omega) ?_
  refine v_imul dX1_sendOn_15 ?_
  refine v_istn3 dX1_sendOn_16 rfl ?_
  refine v_aload_n dX1_sendOn_17 rfl ?_
  refine v_getr dX1_sendOn_18 fr_X1_9 (by assumption) (by decide) rfl (by assumption) ?_
  refine v_getr dX1_sendOn_21 fr_X1_238 (by assumption) (by decide) rfl (by assumption) ?_
  refine v_iload_n dX1_sendOn_24 rfl ?_
  refine v_iald (j := p) dX1_sendOn_25 (by assumption) (by first | rfl | omega) (by omega) ?_
  refine v_ist4 dX1_sendOn_26 rfl ?_
  refine v_aload_n dX1_sendOn_28 rfl ?_
  refine v_getr dX1_sendOn_29 fr_X1_52 (by assumption) (by decide) rfl (by assumption) ?_
  refine v_iload_n dX1_sendOn_32 rfl ?_
  refine v_iald (j := p) dX1_sendOn_33 (by assumption) (by first | rfl | omega) (by omega) ?_
  refine v_iconst dX1_sendOn_34 ?_
  refine v_iadd dX1_sendOn_35 ?_
  rw [hpl]
  refine v_ist5 dX1_sendOn_36 rfl ?_
  exact L pl (by omega) rfl (Nat.le_refl _)

def standF (I : II) (e k : Nat) : Int := if (k : Int) < I e 0 ∧ btI (I e 2).toNat k = 0 then 1 else 0
def orF (s k : Nat) (b : Int) : Nat := if b = 0 then s else s ||| 2 ^ k
def hopF (I : II) (e : Nat) : Nat → Nat
  | 0 => 0
  | k + 1 => orF (hopF I e k) k (standF I e k)
theorem hopF_lt (I : II) (e : Nat) : ∀ k, k ≤ 8 → hopF I e k < 256
  | 0, _ => by
    show (0 : Nat) < 256
    decide
  | k + 1, h => by
    have ih := hopF_lt I e k (by omega)
    show orF (hopF I e k) k (standF I e k) < 256
    unfold orF
    split
    · exact ih
    · exact or_lt _ ih k (by omega)
theorem or_z : ∀ s : Nat, s < 256 → ii ((s : Nat) : Int) ||| ii 0 = ii ((s : Nat) : Int) := by decide +kernel
def stS (I : II) (c e k : Nat) (J : II) : II := up (up (up (up (up (up J c 10 (hopF I e (k + 1))) (c + 1 + 2) k (if standF I e k = 0 then 3 else 0)) (c + 47) k 0) (c + 15 + 1) k (-1)) (c + 15 + 2) k 0) (c + 15 + 3) k (-1)
def startCM (I : II) (c e : Nat) : II := foldUp (stS I c e) (up (up (up I c 10 0) c 11 0) (c + 1) 1 0) 8
theorem stS_e {I : II} {c e x : Nat} (h1 : x < c) : ∀ k, foldUp (stS I c e) (up (up (up I c 10 0) c 11 0) (c + 1) 1 0) k x = I x
  | 0 => by
    show up (up (up I c 10 0) c 11 0) (c + 1) 1 0 x = I x
    rw [up_ne (by omega), up_ne (by omega), up_ne (by omega)]
  | k + 1 => by
    show stS I c e k _ x = I x
    unfold stS
    rw [up_ne (by omega), up_ne (by omega), up_ne (by omega), up_ne (by omega), up_ne (by omega), up_ne (by omega)]
    exact stS_e h1 k
theorem stS_h {I : II} {c e : Nat} : ∀ k, foldUp (stS I c e) (up (up (up I c 10 0) c 11 0) (c + 1) 1 0) k c 10 = (hopF I e k : Int)
  | 0 => by
    show up (up (up I c 10 0) c 11 0) (c + 1) 1 0 c 10 = _
    rw [up_ne (by omega), up_nk (by omega), up_eq]
    rfl
  | k + 1 => by
    show stS I c e k _ c 10 = _
    unfold stS
    rw [up_ne (by omega), up_ne (by omega), up_ne (by omega), up_ne (by omega), up_ne (by omega), up_eq]

set_option maxRecDepth 100000 in
set_option maxHeartbeats 4000000 in
theorem c_startCandidates {l : Launch} {g : GV} {S : SS} {I : II} {X : XX} {c e : Nat} (hfl : l.stackTraces = false) (hC : isCnt S c e) (hW : WfE I e) : CE l g mX1_startCandidates 1 [.ref c] S I X none (startCM I c e) := by
  obtain ⟨n0, n1, n2, n3, n4, n5, n6, n6a, n7, n7a, n8, n8a, n9, n9a, n10, n10a, hR, hH, hF, hG, hE, hsp⟩ := id hC
  obtain ⟨r0, r1, r1a, r2, r2a, r3, r3a, rr⟩ := id hR
  obtain ⟨f0, f1, f1a, f2, f2a, f3, f3a⟩ := id hF
  obtain ⟨l0, ⟨l1, l1a⟩, ⟨l2, l2a⟩, ⟨l3, l3a⟩, ⟨l4, l4a⟩, ⟨l5, l5a⟩, ⟨l6, l6a⟩, ⟨l7, l7a⟩, ⟨l8, l8a⟩, lr, ⟨l9, l9a⟩, lw⟩ := id hG
  obtain ⟨y0, y1, y1a, y2, y2a, y3, y3a, y4, y4a, y5, y5a, yr⟩ := id hE
  obtain ⟨w0, w1, w2, w3, w4, w5, w6, w7, w8, w9, w10, w11, w12, w13, w14⟩ := id hW
  obtain ⟨wd, hwd⟩ := Int.eq_ofNat_of_zero_le w4
  have L : ∀ k : Nat, k ≤ 8 → V l g mX1_startCandidates 1 (Zm g (QE none S (startCM I c e) X)) 0 0 20 [some (.ref c), some (.int (ii (k : Int))), none] [] S (foldUp (stS I c e) (up (up (up I c 10 0) c 11 0) (c + 1) 1 0) k) X := by
    refine loop_up fun k hk ih => ?_
    have hl8 := hopF_lt I e k hk
    refine v_iload_n dX1_startCandidates_20 rfl ?_
    refine v_bipush dX1_startCandidates_21 (by decide) ?_
    refine v_ic_ge (tgt := 138) dX1_startCandidates_23 (by decide) (fun h23 => ?_) (fun h23 => ?_)
    · obtain rfl : k = 8 := by omega
      exact v_vE dX1_startCandidates_138 rfl (rfl)
    · refine v_iload_n dX1_startCandidates_26 rfl ?_
      refine v_aload_n dX1_startCandidates_27 rfl ?_
      refine v_getr dX1_startCandidates_28 fr_X1_9 (by assumption) (by decide) rfl (by assumption) ?_
      refine v_geti dX1_startCandidates_31 fr_X1_95 (by assumption) (by decide) rfl ?_
      rw [stS_e (by omega) k]
      refine v_ic_ge (tgt := 55) dX1_startCandidates_34 (by decide) (fun h34 => ?_) (fun h34 => ?_)
      · have hsd : standF I e k = 0 := by unfold standF; rw [if_neg (by omega)]
        refine v_iconst dX1_startCandidates_55 ?_
        refine v_istn2 dX1_startCandidates_56 rfl ?_
        refine v_aload_n dX1_startCandidates_57 rfl ?_
        refine v_dup dX1_startCandidates_58 rfl ?_
        refine v_geti dX1_startCandidates_59 fr_X1_86 (by assumption) (by decide) rfl ?_
        rw [stS_h k]
        refine v_iload_n dX1_startCandidates_62 rfl ?_
        refine v_if_eq (tgt := 72) dX1_startCandidates_63 (by decide) (fun h63 => ?_) (fun h63 => ?_)
        · refine v_iconst dX1_startCandidates_72 ?_
          refine v_ior (z := ((hopF I e (k + 1) : Nat) : Int)) dX1_startCandidates_73 (by rw [or_z _ hl8]; congr 2; show _ = orF _ _ _; unfold orF; rw [hsd]; rfl) ?_
          refine v_puti dX1_startCandidates_74 fr_X1_86 (by assumption) (by decide) rfl ?_
          refine v_aload_n dX1_startCandidates_77 rfl ?_
          refine v_getr dX1_startCandidates_78 fr_X1_18 (by assumption) (by decide) rfl (by assumption) ?_
          refine v_getr dX1_startCandidates_81 fr_X1_107 (by assumption) (by decide) rfl (by assumption) ?_
          refine v_iload_n dX1_startCandidates_84 rfl ?_
          refine v_iload_n dX1_startCandidates_85 rfl ?_
          refine v_if_eq (tgt := 93) dX1_startCandidates_86 (by decide) (fun h86 => ?_) (fun h86 => ?_)
          · refine v_iconst dX1_startCandidates_93 ?_
            refine v_iast (j := k) dX1_startCandidates_94 (by assumption) (by first | rfl | omega) (by omega) ?_
            refine v_aload_n dX1_startCandidates_95 rfl ?_
            refine v_getr dX1_startCandidates_96 fr_X1_45 (by assumption) (by decide) rfl (by assumption) ?_
            refine v_iload_n dX1_startCandidates_99 rfl ?_
            refine v_iconst dX1_startCandidates_100 ?_
            refine v_iast (j := k) dX1_startCandidates_101 (by assumption) (by first | rfl | omega) (by omega) ?_
            refine v_aload_n dX1_startCandidates_102 rfl ?_
            refine v_getr dX1_startCandidates_103 fr_X1_34 (by assumption) (by decide) rfl (by assumption) ?_
            refine v_getr dX1_startCandidates_106 fr_X1_110 (by assumption) (by decide) rfl (by assumption) ?_
            refine v_iload_n dX1_startCandidates_109 rfl ?_
            refine v_iconst dX1_startCandidates_110 ?_
            refine v_iast (j := k) dX1_startCandidates_111 (by assumption) (by first | rfl | omega) (by omega) ?_
            refine v_aload_n dX1_startCandidates_112 rfl ?_
            refine v_getr dX1_startCandidates_113 fr_X1_34 (by assumption) (by decide) rfl (by assumption) ?_
            refine v_getr dX1_startCandidates_116 fr_X1_113 (by assumption) (by decide) rfl (by assumption) ?_
            refine v_iload_n dX1_startCandidates_119 rfl ?_
            refine v_iconst dX1_startCandidates_120 ?_
            refine v_iast (j := k) dX1_startCandidates_121 (by assumption) (by first | rfl | omega) (by omega) ?_
            refine v_aload_n dX1_startCandidates_122 rfl ?_
            refine v_getr dX1_startCandidates_123 fr_X1_34 (by assumption) (by decide) rfl (by assumption) ?_
            refine v_getr dX1_startCandidates_126 fr_X1_116 (by assumption) (by decide) rfl (by assumption) ?_
            refine v_iload_n dX1_startCandidates_129 rfl ?_
            refine v_iconst dX1_startCandidates_130 ?_
            refine v_iast (j := k) dX1_startCandidates_131 (by assumption) (by first | rfl | omega) (by omega) ?_
            generalize hJJ : up (up (up (up (up (up _ c 10 _) _ k _) (c + 47) k 0) _ k _) _ k _) _ k _ = JJ
            have hJ9 : foldUp (stS I c e) (up (up (up I c 10 0) c 11 0) (c + 1) 1 0) (k + 1) = JJ := by rw [← hJJ]; show stS I c e k _ = _; unfold stS; rw [if_pos hsd]
            refine v_iinc1 dX1_startCandidates_132 rfl ?_
            refine v_goto (tgt := 20) dX1_startCandidates_135 (by decide) ?_
            have q9 := ih (k + 1) (by omega) (by omega)
            rw [hJ9] at q9
            exact v_fgt2 q9 (fgt_c (Or.inr rfl) (fgt_c (Or.inr rfl) (fgt_c (Or.inl rfl) (fgt_n))))
          · exfalso; omega
        · exfalso; omega
      · refine v_aload_n dX1_startCandidates_37 rfl ?_
        refine v_getr dX1_startCandidates_38 fr_X1_9 (by assumption) (by decide) rfl (by assumption) ?_
        refine v_geti dX1_startCandidates_41 fr_X1_100 (by assumption) (by decide) rfl ?_
        rw [stS_e (by omega) k, hwd]
        refine v_iload_n dX1_startCandidates_44 rfl ?_
        refine v_cN2 dX1_startCandidates_45 nb_X1_103 lk_X1_103 (c_contains hfl (s := wd) (c := k) (by omega) (by omega)) (by decide) (Nat.le_of_ble_eq_true rfl) ?_ rfl
        have h01 := btI_01 wd k
        refine v_if_ne (tgt := 55) dX1_startCandidates_48 (by decide) (fun h48 => ?_) (fun h48 => ?_)
        · have hsd : standF I e k = 0 := by unfold standF; rw [show (I e 2).toNat = wd by rw [hwd]; rfl]; rw [if_neg (by omega)]
          refine v_iconst dX1_startCandidates_55 ?_
          refine v_istn2 dX1_startCandidates_56 rfl ?_
          refine v_aload_n dX1_startCandidates_57 rfl ?_
          refine v_dup dX1_startCandidates_58 rfl ?_
          refine v_geti dX1_startCandidates_59 fr_X1_86 (by assumption) (by decide) rfl ?_
          rw [stS_h k]
          refine v_iload_n dX1_startCandidates_62 rfl ?_
          refine v_if_eq (tgt := 72) dX1_startCandidates_63 (by decide) (fun h63 => ?_) (fun h63 => ?_)
          · refine v_iconst dX1_startCandidates_72 ?_
            refine v_ior (z := ((hopF I e (k + 1) : Nat) : Int)) dX1_startCandidates_73 (by rw [or_z _ hl8]; congr 2; show _ = orF _ _ _; unfold orF; rw [hsd]; rfl) ?_
            refine v_puti dX1_startCandidates_74 fr_X1_86 (by assumption) (by decide) rfl ?_
            refine v_aload_n dX1_startCandidates_77 rfl ?_
            refine v_getr dX1_startCandidates_78 fr_X1_18 (by assumption) (by decide) rfl (by assumption) ?_
            refine v_getr dX1_startCandidates_81 fr_X1_107 (by assumption) (by decide) rfl (by assumption) ?_
            refine v_iload_n dX1_startCandidates_84 rfl ?_
            refine v_iload_n dX1_startCandidates_85 rfl ?_
            refine v_if_eq (tgt := 93) dX1_startCandidates_86 (by decide) (fun h86 => ?_) (fun h86 => ?_)
            · refine v_iconst dX1_startCandidates_93 ?_
              refine v_iast (j := k) dX1_startCandidates_94 (by assumption) (by first | rfl | omega) (by omega) ?_
              refine v_aload_n dX1_startCandidates_95 rfl ?_
              refine v_getr dX1_startCandidates_96 fr_X1_45 (by assumption) (by decide) rfl (by assumption) ?_
              refine v_iload_n dX1_startCandidates_99 rfl ?_
              refine v_iconst dX1_startCandidates_100 ?_
              refine v_iast (j := k) dX1_startCandidates_101 (by assumption) (by first | rfl | omega) (by omega) ?_
              refine v_aload_n dX1_startCandidates_102 rfl ?_
              refine v_getr dX1_startCandidates_103 fr_X1_34 (by assumption) (by decide) rfl (by assumption) ?_
              refine v_getr dX1_startCandidates_106 fr_X1_110 (by assumption) (by decide) rfl (by assumption) ?_
              refine v_iload_n dX1_startCandidates_109 rfl ?_
              refine v_iconst dX1_startCandidates_110 ?_
              refine v_iast (j := k) dX1_startCandidates_111 (by assumption) (by first | rfl | omega) (by omega) ?_
              refine v_aload_n dX1_startCandidates_112 rfl ?_
              refine v_getr dX1_startCandidates_113 fr_X1_34 (by assumption) (by decide) rfl (by assumption) ?_
              refine v_getr dX1_startCandidates_116 fr_X1_113 (by assumption) (by decide) rfl (by assumption) ?_
              refine v_iload_n dX1_startCandidates_119 rfl ?_
              refine v_iconst dX1_startCandidates_120 ?_
              refine v_iast (j := k) dX1_startCandidates_121 (by assumption) (by first | rfl | omega) (by omega) ?_
              refine v_aload_n dX1_startCandidates_122 rfl ?_
              refine v_getr dX1_startCandidates_123 fr_X1_34 (by assumption) (by decide) rfl (by assumption) ?_
              refine v_getr dX1_startCandidates_126 fr_X1_116 (by assumption) (by decide) rfl (by assumption) ?_
              refine v_iload_n dX1_startCandidates_129 rfl ?_
              refine v_iconst dX1_startCandidates_130 ?_
              refine v_iast (j := k) dX1_startCandidates_131 (by assumption) (by first | rfl | omega) (by omega) ?_
              generalize hJJ : up (up (up (up (up (up _ c 10 _) _ k _) (c + 47) k 0) _ k _) _ k _) _ k _ = JJ
              have hJ9 : foldUp (stS I c e) (up (up (up I c 10 0) c 11 0) (c + 1) 1 0) (k + 1) = JJ := by rw [← hJJ]; show stS I c e k _ = _; unfold stS; rw [if_pos hsd]
              refine v_iinc1 dX1_startCandidates_132 rfl ?_
              refine v_goto (tgt := 20) dX1_startCandidates_135 (by decide) ?_
              have q9 := ih (k + 1) (by omega) (by omega)
              rw [hJ9] at q9
              exact v_fgt2 q9 (fgt_c (Or.inr rfl) (fgt_c (Or.inr rfl) (fgt_c (Or.inl rfl) (fgt_n))))
            · exfalso; omega
          · exfalso; omega
        · have hsd : standF I e k = 1 := by unfold standF; rw [show (I e 2).toNat = wd by rw [hwd]; rfl]; rw [if_pos (by omega)]
          refine v_iconst dX1_startCandidates_51 ?_
          refine v_goto (tgt := 56) dX1_startCandidates_52 (by decide) ?_
          refine v_istn2 dX1_startCandidates_56 rfl ?_
          refine v_aload_n dX1_startCandidates_57 rfl ?_
          refine v_dup dX1_startCandidates_58 rfl ?_
          refine v_geti dX1_startCandidates_59 fr_X1_86 (by assumption) (by decide) rfl ?_
          rw [stS_h k]
          refine v_iload_n dX1_startCandidates_62 rfl ?_
          refine v_if_eq (tgt := 72) dX1_startCandidates_63 (by decide) (fun h63 => ?_) (fun h63 => ?_)
          · exfalso; omega
          · refine v_iconst dX1_startCandidates_66 ?_
            refine v_iload_n dX1_startCandidates_67 rfl ?_
            refine v_ishl (z := ((2 ^ k : Nat) : Int)) dX1_startCandidates_68 (shl_b k (by omega)) ?_
            refine v_goto (tgt := 73) dX1_startCandidates_69 (by decide) ?_
            refine v_ior (z := ((hopF I e (k + 1) : Nat) : Int)) dX1_startCandidates_73 (by rw [or_b _ hl8 k (by omega)]; congr 2; show _ = orF _ _ _; unfold orF; rw [hsd]; rfl) ?_
            refine v_puti dX1_startCandidates_74 fr_X1_86 (by assumption) (by decide) rfl ?_
            refine v_aload_n dX1_startCandidates_77 rfl ?_
            refine v_getr dX1_startCandidates_78 fr_X1_18 (by assumption) (by decide) rfl (by assumption) ?_
            refine v_getr dX1_startCandidates_81 fr_X1_107 (by assumption) (by decide) rfl (by assumption) ?_
            refine v_iload_n dX1_startCandidates_84 rfl ?_
            refine v_iload_n dX1_startCandidates_85 rfl ?_
            refine v_if_eq (tgt := 93) dX1_startCandidates_86 (by decide) (fun h86 => ?_) (fun h86 => ?_)
            · exfalso; omega
            · refine v_iconst dX1_startCandidates_89 ?_
              refine v_goto (tgt := 94) dX1_startCandidates_90 (by decide) ?_
              refine v_iast (j := k) dX1_startCandidates_94 (by assumption) (by first | rfl | omega) (by omega) ?_
              refine v_aload_n dX1_startCandidates_95 rfl ?_
              refine v_getr dX1_startCandidates_96 fr_X1_45 (by assumption) (by decide) rfl (by assumption) ?_
              refine v_iload_n dX1_startCandidates_99 rfl ?_
              refine v_iconst dX1_startCandidates_100 ?_
              refine v_iast (j := k) dX1_startCandidates_101 (by assumption) (by first | rfl | omega) (by omega) ?_
              refine v_aload_n dX1_startCandidates_102 rfl ?_
              refine v_getr dX1_startCandidates_103 fr_X1_34 (by assumption) (by decide) rfl (by assumption) ?_
              refine v_getr dX1_startCandidates_106 fr_X1_110 (by assumption) (by decide) rfl (by assumption) ?_
              refine v_iload_n dX1_startCandidates_109 rfl ?_
              refine v_iconst dX1_startCandidates_110 ?_
              refine v_iast (j := k) dX1_startCandidates_111 (by assumption) (by first | rfl | omega) (by omega) ?_
              refine v_aload_n dX1_startCandidates_112 rfl ?_
              refine v_getr dX1_startCandidates_113 fr_X1_34 (by assumption) (by decide) rfl (by assumption) ?_
              refine v_getr dX1_startCandidates_116 fr_X1_113 (by assumption) (by decide) rfl (by assumption) ?_
              refine v_iload_n dX1_startCandidates_119 rfl ?_
              refine v_iconst dX1_startCandidates_120 ?_
              refine v_iast (j := k) dX1_startCandidates_121 (by assumption) (by first | rfl | omega) (by omega) ?_
              refine v_aload_n dX1_startCandidates_122 rfl ?_
              refine v_getr dX1_startCandidates_123 fr_X1_34 (by assumption) (by decide) rfl (by assumption) ?_
              refine v_getr dX1_startCandidates_126 fr_X1_116 (by assumption) (by decide) rfl (by assumption) ?_
              refine v_iload_n dX1_startCandidates_129 rfl ?_
              refine v_iconst dX1_startCandidates_130 ?_
              refine v_iast (j := k) dX1_startCandidates_131 (by assumption) (by first | rfl | omega) (by omega) ?_
              generalize hJJ : up (up (up (up (up (up _ c 10 _) _ k _) (c + 47) k 0) _ k _) _ k _) _ k _ = JJ
              have hJ9 : foldUp (stS I c e) (up (up (up I c 10 0) c 11 0) (c + 1) 1 0) (k + 1) = JJ := by rw [← hJJ]; show stS I c e k _ = _; unfold stS; rw [if_neg (show ¬ standF I e k = 0 by rw [hsd]; decide)]
              refine v_iinc1 dX1_startCandidates_132 rfl ?_
              refine v_goto (tgt := 20) dX1_startCandidates_135 (by decide) ?_
              have q9 := ih (k + 1) (by omega) (by omega)
              rw [hJ9] at q9
              exact v_fgt2 q9 (fgt_c (Or.inr rfl) (fgt_c (Or.inr rfl) (fgt_c (Or.inl rfl) (fgt_n))))
  refine v_startE hfl rfl (by decide) (Nat.le_of_ble_eq_true rfl) (ls := [some (.ref c), none, none]) rfl ?_
  refine v_aload_n dX1_startCandidates_0 rfl ?_
  refine v_iconst dX1_startCandidates_1 ?_
  refine v_puti dX1_startCandidates_2 fr_X1_86 (by assumption) (by decide) rfl ?_
  refine v_aload_n dX1_startCandidates_5 rfl ?_
  refine v_iconst dX1_startCandidates_6 ?_
  refine v_puti dX1_startCandidates_7 fr_X1_89 (by assumption) (by decide) rfl ?_
  refine v_aload_n dX1_startCandidates_10 rfl ?_
  refine v_getr dX1_startCandidates_11 fr_X1_18 (by assumption) (by decide) rfl (by assumption) ?_
  refine v_iconst dX1_startCandidates_14 ?_
  refine v_puti dX1_startCandidates_15 fr_X1_92 (by assumption) (by decide) rfl ?_
  refine v_iconst dX1_startCandidates_18 ?_
  refine v_istn1 dX1_startCandidates_19 rfl ?_
  exact L 0 (Nat.zero_le _)

theorem WfE_of {I J : II} {e : Nat} (h : WfE I e) (he : ∀ x, e ≤ x → x < e + 31 → J x = I x) : WfE J e := by
  unfold WfE at *
  rw [he e (by omega) (by omega), he (e + 1) (by omega) (by omega), he (e + 2) (by omega) (by omega), he (e + 3) (by omega) (by omega), he (e + 4) (by omega) (by omega)]
  obtain ⟨w0, w1, w2, w3, w4, w5, w6, w7, w8, w9⟩ := h
  exact ⟨w0, w1, w2, w3, w4, w5, w6, w7, fun p k hp hk => by rw [he (e + 6 + p) (by omega) (by omega)]; exact w8 p k hp hk, w9⟩
theorem sendM_e {I : II} {c e p x : Nat} {r : Int} (h : x < c) : sendM I c e p r x = I x := by
  unfold sendM
  split
  · rw [up_ne (by omega), up_ne (by omega), up_ne (by omega), up_ne (by omega)]
  · rw [up_ne (by omega), up_ne (by omega)]
theorem sendM_f {I : II} {c e p j : Nat} {r : Int} (h : j ≠ 14) : sendM I c e p r c j = I c j := by
  unfold sendM
  split
  · rw [up_ne (by omega), up_ne (by omega), up_ne (by omega), up_ne (by omega)]
  · rw [up_nk h, up_ne (by omega)]
def spS (c e p : Nat) (J : II) : II := sendM (up (up J (c + 49) p (-1)) (c + 51) p 10000) c e p (-1)
def spI (I : II) (c e : Nat) : II := up (up (up I c 12 (sumTo (I (e + 3)) (I e 4).toNat)) c 14 0) c 15 0
def startPM (I : II) (c e : Nat) : II := foldUp (spS c e) (spI I c e) (I e 4).toNat
theorem sp_e {I : II} {c e x : Nat} (h : x < c) : ∀ k, foldUp (spS c e) (spI I c e) k x = I x
  | 0 => by
    show spI I c e x = I x
    unfold spI
    rw [up_ne (by omega), up_ne (by omega), up_ne (by omega)]
  | k + 1 => by
    show spS c e k _ x = I x
    unfold spS
    rw [sendM_e h, up_ne (by omega), up_ne (by omega)]
    exact sp_e h k
theorem sp_h {I : II} {c e : Nat} : ∀ k, foldUp (spS c e) (spI I c e) k c 10 = I c 10
  | 0 => by
    show spI I c e c 10 = _
    unfold spI
    rw [up_nk (by omega), up_nk (by omega), up_nk (by omega)]
  | k + 1 => by
    show spS c e k _ c 10 = _
    unfold spS
    rw [sendM_f (by omega), up_ne (by omega), up_ne (by omega)]
    exact sp_h k

set_option maxRecDepth 100000 in
set_option maxHeartbeats 4000000 in
theorem c_startPiles {l : Launch} {g : GV} {S : SS} {I : II} {X : XX} {c e h : Nat} (hfl : l.stackTraces = false) (hC : isCnt S c e) (hW : WfE I e) (hh : I c 10 = (h : Int)) (hh8 : h < 256) : CE l g mX1_startPiles 2 [.ref c] S I X none (startPM I c e) := by
  obtain ⟨n0, n1, n2, n3, n4, n5, n6, n6a, n7, n7a, n8, n8a, n9, n9a, n10, n10a, hR, hH, hF, hG, hE, hsp⟩ := id hC
  obtain ⟨y0, y1, y1a, y2, y2a, y3, y3a, y4, y4a, y5, y5a, yr⟩ := id hE
  obtain ⟨w0, w1, w2, w3, -⟩ := id hW
  obtain ⟨n, hn⟩ := Int.eq_ofNat_of_zero_le w2
  have L : ∀ p : Nat, p ≤ n → V l g mX1_startPiles 2 (Zm g (QE none S (startPM I c e) X)) 0 0 23 [some (.ref c), some (.int (ii (p : Int)))] [] S (foldUp (spS c e) (spI I c e) p) X := by
    refine loop_up fun p hp ih => ?_
    refine v_iload_n dX1_startPiles_23 rfl ?_
    refine v_aload_n dX1_startPiles_24 rfl ?_
    refine v_getr dX1_startPiles_25 fr_X1_9 (by assumption) (by decide) rfl (by assumption) ?_
    refine v_geti dX1_startPiles_28 fr_X1_130 (by assumption) (by decide) rfl ?_
    rw [sp_e (by omega) p]
    refine v_ic_ge (tgt := 63) dX1_startPiles_31 (by decide) (fun h31 => ?_) (fun h31 => ?_)
    · obtain rfl : p = n := by omega
      exact v_vE dX1_startPiles_63 rfl (by unfold startPM; rw [show (I e 4).toNat = p by rw [hn]; rfl])
    · refine v_aload_n dX1_startPiles_34 rfl ?_
      refine v_getr dX1_startPiles_35 fr_X1_52 (by assumption) (by decide) rfl (by assumption) ?_
      refine v_iload_n dX1_startPiles_38 rfl ?_
      refine v_iconst dX1_startPiles_39 ?_
      refine v_iast (j := p) dX1_startPiles_40 (by assumption) (by first | rfl | omega) (by omega) ?_
      refine v_aload_n dX1_startPiles_41 rfl ?_
      refine v_getr dX1_startPiles_42 fr_X1_58 (by assumption) (by decide) rfl (by assumption) ?_
      refine v_iload_n dX1_startPiles_45 rfl ?_
      refine v_sipush dX1_startPiles_46 (by decide) ?_
      refine v_iast (j := p) dX1_startPiles_49 (by assumption) (by first | rfl | omega) (by omega) ?_
      refine v_aload_n dX1_startPiles_50 rfl ?_
      refine v_iload_n dX1_startPiles_51 rfl ?_
      refine v_iconst dX1_startPiles_52 ?_
      refine v_cV2 dX1_startPiles_53 lk_X1_133 (by assumption) (by decide) rfl (c_sendOn hfl hC (WfE_of hW (fun x h1 h2 => by rw [up_ne (by omega), up_ne (by omega)]; exact sp_e (by omega) p)) (by omega) (by rw [up_ne (by omega), up_ne (by omega), sp_h, hh]) hh8 (by rw [up_ne (by omega), up_eq]; omega)) (by decide) (Nat.le_of_ble_eq_true rfl) ?_ rfl
      refine v_pop dX1_startPiles_56 rfl ?_
      refine v_iinc1 dX1_startPiles_57 rfl ?_
      refine v_goto (tgt := 23) dX1_startPiles_60 (by decide) ?_
      exact ih (p + 1) (by omega) (by omega)
  refine v_startE hfl rfl (by decide) (Nat.le_of_ble_eq_true rfl) (ls := [some (.ref c), none]) rfl ?_
  refine v_aload_n dX1_startPiles_0 rfl ?_
  refine v_aload_n dX1_startPiles_1 rfl ?_
  refine v_getr dX1_startPiles_2 fr_X1_9 (by assumption) (by decide) rfl (by assumption) ?_
  refine v_cV0 dX1_startPiles_5 lk_X1_119 (by assumption) (by decide) rfl (c_papers hfl hE hW) (by decide) (Nat.le_of_ble_eq_true rfl) ?_ rfl
  refine v_puti dX1_startPiles_8 fr_X1_122 (by assumption) (by decide) rfl ?_
  refine v_aload_n dX1_startPiles_11 rfl ?_
  refine v_iconst dX1_startPiles_12 ?_
  refine v_puti dX1_startPiles_13 fr_X1_124 (by assumption) (by decide) rfl ?_
  refine v_aload_n dX1_startPiles_16 rfl ?_
  refine v_iconst dX1_startPiles_17 ?_
  refine v_puti dX1_startPiles_18 fr_X1_127 (by assumption) (by decide) rfl ?_
  refine v_iconst dX1_startPiles_21 ?_
  refine v_istn1 dX1_startPiles_22 rfl ?_
  exact L 0 (Nat.zero_le _)

def quotaF (I : II) (c e : Nat) : Int := if I (e + 1) 0 = 0 then (dvI (I c 12) (I (e + 1) 3 + 1) + 1) * 10000 else if I (e + 1) 0 = 1 then dvI (I c 12 + I (e + 1) 3 - 1) (I (e + 1) 3) * 10000 else if I (e + 1) 0 = 2 then dvI (I c 12 * 10000) (I (e + 1) 3 + 1) + 1 else dvI (I c 12 * 10000 - I c 14 - I c 15) (I (e + 1) 3 + 1) + 1

set_option maxRecDepth 100000 in
set_option maxHeartbeats 4000000 in
theorem c_findQuota {l : Launch} {g : GV} {S : SS} {I : II} {X : XX} {c e : Nat} (hfl : l.stackTraces = false) (hC : isCnt S c e) (hW : WfE I e) : CE l g mX1_findQuota 1 [.ref c] S I X (some (.int (ii (quotaF I c e)))) I := by
  obtain ⟨n0, n1, n2, n3, n4, n5, n6, n6a, n7, n7a, n8, n8a, n9, n9a, n10, n10a, hR, hH, hF, hG, hE, hsp⟩ := id hC
  obtain ⟨y0, y1, y1a, y2, y2a, y3, y3a, y4, y4a, y5, y5a, yr⟩ := id hE
  obtain ⟨w0, w1, w2, w3, w4, w5, w6, w7, w8, w9, w10, w11, w12, w13, w14⟩ := id hW
  refine v_startE hfl rfl (by decide) (Nat.le_of_ble_eq_true rfl) (ls := [some (.ref c), none, none]) rfl ?_
  refine v_iconst dX1_findQuota_0 ?_
  refine v_aload_n dX1_findQuota_1 rfl ?_
  refine v_getr dX1_findQuota_2 fr_X1_9 (by assumption) (by decide) rfl (by assumption) ?_
  refine v_getr dX1_findQuota_5 fr_X1_137 (by assumption) (by decide) rfl (by assumption) ?_
  refine v_iconst dX1_findQuota_8 ?_
  refine v_iald (j := 3) dX1_findQuota_9 (by assumption) (by first | rfl | omega) (by omega) ?_
  refine v_mmax dX1_findQuota_10 lk_X1_140 (by decide) (Nat.le_of_ble_eq_true rfl) ?_
  rw [show mxI 1 (I (e + 1) 3) = I (e + 1) 3 by unfold mxI; split <;> omega]
  refine v_istn1 dX1_findQuota_13 rfl ?_
  refine v_aload_n dX1_findQuota_14 rfl ?_
  refine v_geti dX1_findQuota_15 fr_X1_122 (by assumption) (by decide) rfl ?_
  refine v_sipush dX1_findQuota_18 (by decide) ?_
  refine v_imul dX1_findQuota_21 ?_
  refine v_istn2 dX1_findQuota_22 rfl ?_
  refine v_aload_n dX1_findQuota_23 rfl ?_
  refine v_getr dX1_findQuota_24 fr_X1_9 (by assumption) (by decide) rfl (by assumption) ?_
  refine v_getr dX1_findQuota_27 fr_X1_137 (by assumption) (by decide) rfl (by assumption) ?_
  refine v_iconst dX1_findQuota_30 ?_
  refine v_iald (j := 0) dX1_findQuota_31 (by assumption) (by first | rfl | omega) (by omega) ?_
  have hz4 : I (e + 1) 0 = 0 ∨ I (e + 1) 0 = 1 ∨ I (e + 1) 0 = 2 ∨ I (e + 1) 0 = 3 := by omega
  rcases hz4 with hz | hz | hz | hz
  · rw [hz]
    refine v_tabIn (off := 28) (tgt := 60) dX1_findQuota_32 (by omega) (by omega) rfl (by decide) ?_
    refine v_aload_n dX1_findQuota_60 rfl ?_
    refine v_geti dX1_findQuota_61 fr_X1_122 (by assumption) (by decide) rfl ?_
    refine v_iload_n dX1_findQuota_64 rfl ?_
    refine v_iconst dX1_findQuota_65 ?_
    refine v_iadd dX1_findQuota_66 ?_
    refine v_idiv dX1_findQuota_67 (ii_ne0 (by omega) (by omega)) (dvI_ii _ _) ?_
    refine v_iconst dX1_findQuota_68 ?_
    refine v_iadd dX1_findQuota_69 ?_
    refine v_sipush dX1_findQuota_70 (by decide) ?_
    refine v_imul dX1_findQuota_73 ?_
    exact v_iE dX1_findQuota_74 rfl (by unfold quotaF; simp [hz]) (rfl)
  · rw [hz]
    refine v_tabIn (off := 43) (tgt := 75) dX1_findQuota_32 (by omega) (by omega) rfl (by decide) ?_
    refine v_aload_n dX1_findQuota_75 rfl ?_
    refine v_geti dX1_findQuota_76 fr_X1_122 (by assumption) (by decide) rfl ?_
    refine v_iload_n dX1_findQuota_79 rfl ?_
    refine v_iadd dX1_findQuota_80 ?_
    refine v_iconst dX1_findQuota_81 ?_
    refine v_isub dX1_findQuota_82 ?_
    refine v_iload_n dX1_findQuota_83 rfl ?_
    refine v_idiv dX1_findQuota_84 (ii_ne0 (by omega) (by omega)) (dvI_ii _ _) ?_
    refine v_sipush dX1_findQuota_85 (by decide) ?_
    refine v_imul dX1_findQuota_88 ?_
    exact v_iE dX1_findQuota_89 rfl (by unfold quotaF; simp [hz]) (rfl)
  · rw [hz]
    refine v_tabIn (off := 58) (tgt := 90) dX1_findQuota_32 (by omega) (by omega) rfl (by decide) ?_
    refine v_iload_n dX1_findQuota_90 rfl ?_
    refine v_iload_n dX1_findQuota_91 rfl ?_
    refine v_iconst dX1_findQuota_92 ?_
    refine v_iadd dX1_findQuota_93 ?_
    refine v_idiv dX1_findQuota_94 (ii_ne0 (by omega) (by omega)) (dvI_ii _ _) ?_
    refine v_iconst dX1_findQuota_95 ?_
    refine v_iadd dX1_findQuota_96 ?_
    exact v_iE dX1_findQuota_97 rfl (by unfold quotaF; simp [hz]) (rfl)
  · rw [hz]
    refine v_tabOut (tgt := 98) dX1_findQuota_32 (Or.inr (by omega)) (by decide) ?_
    refine v_iload_n dX1_findQuota_98 rfl ?_
    refine v_aload_n dX1_findQuota_99 rfl ?_
    refine v_geti dX1_findQuota_100 fr_X1_124 (by assumption) (by decide) rfl ?_
    refine v_isub dX1_findQuota_103 ?_
    refine v_aload_n dX1_findQuota_104 rfl ?_
    refine v_geti dX1_findQuota_105 fr_X1_127 (by assumption) (by decide) rfl ?_
    refine v_isub dX1_findQuota_108 ?_
    refine v_iload_n dX1_findQuota_109 rfl ?_
    refine v_iconst dX1_findQuota_110 ?_
    refine v_iadd dX1_findQuota_111 ?_
    refine v_idiv dX1_findQuota_112 (ii_ne0 (by omega) (by omega)) (dvI_ii _ _) ?_
    refine v_iconst dX1_findQuota_113 ?_
    refine v_iadd dX1_findQuota_114 ?_
    exact v_iE dX1_findQuota_115 rfl (by unfold quotaF; simp [hz]) (rfl)

def lgI (I : II) (c r : Nat) : II := up (up (up (up (up (up (up I (c + 19 + 1) r (I c 13)) (c + 19 + 2) r (I c 14)) (c + 19 + 3) r (I c 15)) (c + 19 + 4) r 0) (c + 19 + 5) r (-1)) (c + 19 + 6) r 0) (c + 19 + 7) r 0
def logM (I : II) (c r : Nat) : II := cpy (cpy (cpy (lgI I c r) (c + 47) (c + 1 + 4 + r) 0 0 8) (c + 48) (c + 19 + 9 + r) 0 0 25) (c + 51) (c + 19 + 19 + r) 0 0 25

set_option maxRecDepth 100000 in
set_option maxHeartbeats 4000000 in
theorem c_logRound {l : Launch} {g : GV} {S : SS} {I : II} {X : XX} {c e r : Nat} (hfl : l.stackTraces = false) (hC : isCnt S c e) (hr : r < 9) : CE l g mX1_logRound 1 [.ref c, .int (ii (r : Int))] S I X none (logM I c r) := by
  obtain ⟨n0, n1, n2, n3, n4, n5, n6, n6a, n7, n7a, n8, n8a, n9, n9a, n10, n10a, hR, hH, hF, hG, hE, hsp⟩ := id hC
  obtain ⟨r0, r1, r1a, r2, r2a, r3, r3a, rr⟩ := id hR
  obtain ⟨f0, f1, f1a, f2, f2a, f3, f3a⟩ := id hF
  obtain ⟨l0, ⟨l1, l1a⟩, ⟨l2, l2a⟩, ⟨l3, l3a⟩, ⟨l4, l4a⟩, ⟨l5, l5a⟩, ⟨l6, l6a⟩, ⟨l7, l7a⟩, ⟨l8, l8a⟩, lr, ⟨l9, l9a⟩, lw⟩ := id hG
  obtain ⟨y0, y1, y1a, y2, y2a, y3, y3a, y4, y4a, y5, y5a, yr⟩ := id hE
  refine v_startE hfl rfl (by decide) (Nat.le_of_ble_eq_true rfl) (ls := [some (.ref c), some (.int (ii (r : Int)))]) rfl ?_
  refine v_aload_n dX1_logRound_0 rfl ?_
  refine v_getr dX1_logRound_1 fr_X1_41 (by assumption) (by decide) rfl (by assumption) ?_
  refine v_getr dX1_logRound_4 fr_X1_145 (by assumption) (by decide) rfl (by assumption) ?_
  refine v_iload_n dX1_logRound_7 rfl ?_
  refine v_aload_n dX1_logRound_8 rfl ?_
  refine v_geti dX1_logRound_9 fr_X1_75 (by assumption) (by decide) rfl ?_
  refine v_iast (j := r) dX1_logRound_12 (by assumption) (by first | rfl | omega) (by omega) ?_
  refine v_aload_n dX1_logRound_13 rfl ?_
  refine v_getr dX1_logRound_14 fr_X1_41 (by assumption) (by decide) rfl (by assumption) ?_
  refine v_getr dX1_logRound_17 fr_X1_147 (by assumption) (by decide) rfl (by assumption) ?_
  refine v_iload_n dX1_logRound_20 rfl ?_
  refine v_aload_n dX1_logRound_21 rfl ?_
  refine v_geti dX1_logRound_22 fr_X1_124 (by assumption) (by decide) rfl ?_
  rw [up_ne (by omega)]
  refine v_iast (j := r) dX1_logRound_25 (by assumption) (by first | rfl | omega) (by omega) ?_
  refine v_aload_n dX1_logRound_26 rfl ?_
  refine v_getr dX1_logRound_27 fr_X1_41 (by assumption) (by decide) rfl (by assumption) ?_
  refine v_getr dX1_logRound_30 fr_X1_149 (by assumption) (by decide) rfl (by assumption) ?_
  refine v_iload_n dX1_logRound_33 rfl ?_
  refine v_aload_n dX1_logRound_34 rfl ?_
  refine v_geti dX1_logRound_35 fr_X1_127 (by assumption) (by decide) rfl ?_
  rw [up_ne (by omega), up_ne (by omega)]
  refine v_iast (j := r) dX1_logRound_38 (by assumption) (by first | rfl | omega) (by omega) ?_
  refine v_aload_n dX1_logRound_39 rfl ?_
  refine v_getr dX1_logRound_40 fr_X1_41 (by assumption) (by decide) rfl (by assumption) ?_
  refine v_getr dX1_logRound_43 fr_X1_151 (by assumption) (by decide) rfl (by assumption) ?_
  refine v_iload_n dX1_logRound_46 rfl ?_
  refine v_iconst dX1_logRound_47 ?_
  refine v_iast (j := r) dX1_logRound_48 (by assumption) (by first | rfl | omega) (by omega) ?_
  refine v_aload_n dX1_logRound_49 rfl ?_
  refine v_getr dX1_logRound_50 fr_X1_41 (by assumption) (by decide) rfl (by assumption) ?_
  refine v_getr dX1_logRound_53 fr_X1_154 (by assumption) (by decide) rfl (by assumption) ?_
  refine v_iload_n dX1_logRound_56 rfl ?_
  refine v_iconst dX1_logRound_57 ?_
  refine v_iast (j := r) dX1_logRound_58 (by assumption) (by first | rfl | omega) (by omega) ?_
  refine v_aload_n dX1_logRound_59 rfl ?_
  refine v_getr dX1_logRound_60 fr_X1_41 (by assumption) (by decide) rfl (by assumption) ?_
  refine v_getr dX1_logRound_63 fr_X1_157 (by assumption) (by decide) rfl (by assumption) ?_
  refine v_iload_n dX1_logRound_66 rfl ?_
  refine v_iconst dX1_logRound_67 ?_
  refine v_iast (j := r) dX1_logRound_68 (by assumption) (by first | rfl | omega) (by omega) ?_
  refine v_aload_n dX1_logRound_69 rfl ?_
  refine v_getr dX1_logRound_70 fr_X1_41 (by assumption) (by decide) rfl (by assumption) ?_
  refine v_getr dX1_logRound_73 fr_X1_160 (by assumption) (by decide) rfl (by assumption) ?_
  refine v_iload_n dX1_logRound_76 rfl ?_
  refine v_iconst dX1_logRound_77 ?_
  refine v_iast (j := r) dX1_logRound_78 (by assumption) (by first | rfl | omega) (by omega) ?_
  refine v_aload_n dX1_logRound_79 rfl ?_
  refine v_getr dX1_logRound_80 fr_X1_45 (by assumption) (by decide) rfl (by assumption) ?_
  refine v_iconst dX1_logRound_83 ?_
  refine v_aload_n dX1_logRound_84 rfl ?_
  refine v_getr dX1_logRound_85 fr_X1_18 (by assumption) (by decide) rfl (by assumption) ?_
  refine v_getr dX1_logRound_88 fr_X1_163 (by assumption) (by decide) rfl (by assumption) ?_
  refine v_iload_n dX1_logRound_91 rfl ?_
  refine v_aald22 (j := r) dX1_logRound_92 (by assumption) (by first | rfl | omega) (by omega) ((rr r hr).1) ?_
  refine v_iconst dX1_logRound_93 ?_
  refine v_bipush dX1_logRound_94 (by decide) ?_
  have q1 := (rr r hr).2
  refine v_copy (sp := 0) (dq := 0) (n := 8) dX1_logRound_96 cy_X1_166 (by assumption) (by assumption) (by first | rfl | omega) (by first | rfl | omega) (by first | rfl | omega) (by omega) (by omega) (by decide) (Nat.le_of_ble_eq_true rfl) ?_
  refine v_aload_n dX1_logRound_99 rfl ?_
  refine v_getr dX1_logRound_100 fr_X1_49 (by assumption) (by decide) rfl (by assumption) ?_
  refine v_iconst dX1_logRound_103 ?_
  refine v_aload_n dX1_logRound_104 rfl ?_
  refine v_getr dX1_logRound_105 fr_X1_41 (by assumption) (by decide) rfl (by assumption) ?_
  refine v_getr dX1_logRound_108 fr_X1_172 (by assumption) (by decide) rfl (by assumption) ?_
  refine v_iload_n dX1_logRound_111 rfl ?_
  refine v_aald22 (j := r) dX1_logRound_112 (by assumption) (by first | rfl | omega) (by omega) ((lr r hr).1) ?_
  refine v_iconst dX1_logRound_113 ?_
  refine v_bipush dX1_logRound_114 (by decide) ?_
  have q2 := (lr r hr).2
  refine v_copy (sp := 0) (dq := 0) (n := 25) dX1_logRound_116 cy_X1_166 (by assumption) (by assumption) (by first | rfl | omega) (by first | rfl | omega) (by first | rfl | omega) (by omega) (by omega) (by decide) (Nat.le_of_ble_eq_true rfl) ?_
  refine v_aload_n dX1_logRound_119 rfl ?_
  refine v_getr dX1_logRound_120 fr_X1_58 (by assumption) (by decide) rfl (by assumption) ?_
  refine v_iconst dX1_logRound_123 ?_
  refine v_aload_n dX1_logRound_124 rfl ?_
  refine v_getr dX1_logRound_125 fr_X1_41 (by assumption) (by decide) rfl (by assumption) ?_
  refine v_getr dX1_logRound_128 fr_X1_174 (by assumption) (by decide) rfl (by assumption) ?_
  refine v_iload_n dX1_logRound_131 rfl ?_
  refine v_aald22 (j := r) dX1_logRound_132 (by assumption) (by first | rfl | omega) (by omega) ((lw r hr).1) ?_
  refine v_iconst dX1_logRound_133 ?_
  refine v_bipush dX1_logRound_134 (by decide) ?_
  have q3 := (lw r hr).2
  refine v_copy (sp := 0) (dq := 0) (n := 25) dX1_logRound_136 cy_X1_166 (by assumption) (by assumption) (by first | rfl | omega) (by first | rfl | omega) (by first | rfl | omega) (by omega) (by omega) (by decide) (Nat.le_of_ble_eq_true rfl) ?_
  exact v_vE dX1_logRound_139 rfl (rfl)

def evM (I : II) (c r : Nat) (a b m : Int) : II := up (up (up I (c + 19 + 4) r a) (c + 19 + 5) r b) (c + 19 + 6) r (wr m)
set_option maxRecDepth 100000 in
set_option maxHeartbeats 4000000 in
theorem c_logEvent {l : Launch} {g : GV} {S : SS} {I : II} {X : XX} {c e r : Nat} {a b m : Int} (hfl : l.stackTraces = false) (hC : isCnt S c e) (hr : r < 9) : CE l g mX1_logEvent 0 [.ref c, .int (ii (r : Int)), .int (ii a), .int (ii b), .int (ii m)] S I X none (evM I c r a b m) := by
  obtain ⟨n0, n1, n2, n3, n4, n5, n6, n6a, n7, n7a, n8, n8a, n9, n9a, n10, n10a, hR, hH, hF, hG, hE, hsp⟩ := id hC
  obtain ⟨r0, r1, r1a, r2, r2a, r3, r3a, rr⟩ := id hR
  obtain ⟨f0, f1, f1a, f2, f2a, f3, f3a⟩ := id hF
  obtain ⟨l0, ⟨l1, l1a⟩, ⟨l2, l2a⟩, ⟨l3, l3a⟩, ⟨l4, l4a⟩, ⟨l5, l5a⟩, ⟨l6, l6a⟩, ⟨l7, l7a⟩, ⟨l8, l8a⟩, lr, ⟨l9, l9a⟩, lw⟩ := id hG
  obtain ⟨y0, y1, y1a, y2, y2a, y3, y3a, y4, y4a, y5, y5a, yr⟩ := id hE
  refine v_startE hfl rfl (by decide) (Nat.le_of_ble_eq_true rfl) (ls := [some (.ref c), some (.int (ii (r : Int))), some (.int (ii a)), some (.int (ii b)), some (.int (ii m))]) rfl ?_
  refine v_aload_n dX1_logEvent_0 rfl ?_
  refine v_getr dX1_logEvent_1 fr_X1_41 (by assumption) (by decide) rfl (by assumption) ?_
  refine v_getr dX1_logEvent_4 fr_X1_151 (by assumption) (by decide) rfl (by assumption) ?_
  refine v_iload_n dX1_logEvent_7 rfl ?_
  refine v_iload_n dX1_logEvent_8 rfl ?_
  refine v_iast (j := r) dX1_logEvent_9 (by assumption) (by first | rfl | omega) (by omega) ?_
  refine v_aload_n dX1_logEvent_10 rfl ?_
  refine v_getr dX1_logEvent_11 fr_X1_41 (by assumption) (by decide) rfl (by assumption) ?_
  refine v_getr dX1_logEvent_14 fr_X1_154 (by assumption) (by decide) rfl (by assumption) ?_
  refine v_iload_n dX1_logEvent_17 rfl ?_
  refine v_iload_n dX1_logEvent_18 rfl ?_
  refine v_iast (j := r) dX1_logEvent_19 (by assumption) (by first | rfl | omega) (by omega) ?_
  refine v_aload_n dX1_logEvent_20 rfl ?_
  refine v_getr dX1_logEvent_21 fr_X1_41 (by assumption) (by decide) rfl (by assumption) ?_
  refine v_getr dX1_logEvent_24 fr_X1_157 (by assumption) (by decide) rfl (by assumption) ?_
  refine v_iload_n dX1_logEvent_27 rfl ?_
  refine v_iload dX1_logEvent_28 rfl ?_
  refine v_wr ?_
  refine v_iast (j := r) dX1_logEvent_30 (by assumption) (by first | rfl | omega) (by omega) ?_
  exact v_vE dX1_logEvent_31 rfl (rfl)

def clr (h q : Nat) : Nat := if btI h q = 0 then h else h - 2 ^ q
theorem clr_b : ∀ h : Nat, h < 256 → ∀ q : Nat, q < 8 → ii ((h : Nat) : Int) &&& (ii ((2 ^ q : Nat) : Int) ^^^ ii (-1)) = ii ((clr h q : Nat) : Int) := by decide +kernel
theorem clr_lt : ∀ h : Nat, h < 256 → ∀ q : Nat, q < 8 → clr h q < 256 := by decide +kernel
def elI (I : II) (c q r : Nat) (rs : Int) (ec : Nat) : II := up (up (up (up (up I (c + 1 + 1) ec (q : Int)) (c + 1) 1 ((ec : Int) + 1)) (c + 1 + 2) q 1) (c + 15 + 1) q (r : Int)) (c + 15 + 2) q rs
def electM (I : II) (c q r : Nat) (rs : Int) : II := up (up (up (elI I c q r rs (I (c + 1) 1).toNat) (c + 19 + 7) r ((I (c + 19 + 7) r).toNat ||| 2 ^ q : Nat)) c 10 (clr (I c 10).toNat q)) c 11 ((I c 11).toNat ||| 2 ^ q : Nat)

set_option maxRecDepth 100000 in
set_option maxHeartbeats 4000000 in
theorem c_elect {l : Launch} {g : GV} {S : SS} {I : II} {X : XX} {c e q r ec ne h u : Nat} {rs : Int} (hfl : l.stackTraces = false) (hC : isCnt S c e) (hq : q < 8) (hr : r < 9) (hec : I (c + 1) 1 = (ec : Int)) (hec8 : ec < 8) (hne : I (c + 19 + 7) r = (ne : Int)) (hne8 : ne < 256) (hh : I c 10 = (h : Int)) (hh8 : h < 256) (hu : I c 11 = (u : Int)) (hu8 : u < 256) : CE l g mX1_elect 0 [.ref c, .int (ii (q : Int)), .int (ii (r : Int)), .int (ii rs)] S I X none (electM I c q r rs) := by
  obtain ⟨n0, n1, n2, n3, n4, n5, n6, n6a, n7, n7a, n8, n8a, n9, n9a, n10, n10a, hR, hH, hF, hG, hE, hsp⟩ := id hC
  obtain ⟨r0, r1, r1a, r2, r2a, r3, r3a, rr⟩ := id hR
  obtain ⟨f0, f1, f1a, f2, f2a, f3, f3a⟩ := id hF
  obtain ⟨l0, ⟨l1, l1a⟩, ⟨l2, l2a⟩, ⟨l3, l3a⟩, ⟨l4, l4a⟩, ⟨l5, l5a⟩, ⟨l6, l6a⟩, ⟨l7, l7a⟩, ⟨l8, l8a⟩, lr, ⟨l9, l9a⟩, lw⟩ := id hG
  obtain ⟨y0, y1, y1a, y2, y2a, y3, y3a, y4, y4a, y5, y5a, yr⟩ := id hE
  refine v_startE hfl rfl (by decide) (Nat.le_of_ble_eq_true rfl) (ls := [some (.ref c), some (.int (ii (q : Int))), some (.int (ii (r : Int))), some (.int (ii rs))]) rfl ?_
  refine v_aload_n dX1_elect_0 rfl ?_
  refine v_getr dX1_elect_1 fr_X1_18 (by assumption) (by decide) rfl (by assumption) ?_
  refine v_geti dX1_elect_4 fr_X1_92 (by assumption) (by decide) rfl ?_
  refine v_bipush dX1_elect_7 (by decide) ?_
  refine v_ic_ge (tgt := 41) dX1_elect_9 (by decide) (fun h9 => ?_) (fun h9 => ?_)
  · exfalso; omega
  · refine v_aload_n dX1_elect_12 rfl ?_
    refine v_getr dX1_elect_13 fr_X1_18 (by assumption) (by decide) rfl (by assumption) ?_
    refine v_getr dX1_elect_16 fr_X1_206 (by assumption) (by decide) rfl (by assumption) ?_
    refine v_aload_n dX1_elect_19 rfl ?_
    refine v_getr dX1_elect_20 fr_X1_18 (by assumption) (by decide) rfl (by assumption) ?_
    refine v_geti dX1_elect_23 fr_X1_92 (by assumption) (by decide) rfl ?_
    refine v_iload_n dX1_elect_26 rfl ?_
    refine v_iast (j := ec) dX1_elect_27 (by assumption) (hec) (by omega) ?_
    refine v_aload_n dX1_elect_28 rfl ?_
    refine v_getr dX1_elect_29 fr_X1_18 (by assumption) (by decide) rfl (by assumption) ?_
    refine v_dup dX1_elect_32 rfl ?_
    refine v_geti dX1_elect_33 fr_X1_92 (by assumption) (by decide) rfl ?_
    rw [up_ne (by omega), hec]
    refine v_iconst dX1_elect_36 ?_
    refine v_iadd dX1_elect_37 ?_
    refine v_puti dX1_elect_38 fr_X1_92 (by assumption) (by decide) rfl ?_
    refine v_aload_n dX1_elect_41 rfl ?_
    refine v_getr dX1_elect_42 fr_X1_18 (by assumption) (by decide) rfl (by assumption) ?_
    refine v_getr dX1_elect_45 fr_X1_107 (by assumption) (by decide) rfl (by assumption) ?_
    refine v_iload_n dX1_elect_48 rfl ?_
    refine v_iconst dX1_elect_49 ?_
    refine v_iast (j := q) dX1_elect_50 (by assumption) (by first | rfl | omega) (by omega) ?_
    refine v_aload_n dX1_elect_51 rfl ?_
    refine v_getr dX1_elect_52 fr_X1_34 (by assumption) (by decide) rfl (by assumption) ?_
    refine v_getr dX1_elect_55 fr_X1_110 (by assumption) (by decide) rfl (by assumption) ?_
    refine v_iload_n dX1_elect_58 rfl ?_
    refine v_iload_n dX1_elect_59 rfl ?_
    refine v_iast (j := q) dX1_elect_60 (by assumption) (by first | rfl | omega) (by omega) ?_
    refine v_aload_n dX1_elect_61 rfl ?_
    refine v_getr dX1_elect_62 fr_X1_34 (by assumption) (by decide) rfl (by assumption) ?_
    refine v_getr dX1_elect_65 fr_X1_113 (by assumption) (by decide) rfl (by assumption) ?_
    refine v_iload_n dX1_elect_68 rfl ?_
    refine v_iload_n dX1_elect_69 rfl ?_
    refine v_iast (j := q) dX1_elect_70 (by assumption) (by first | rfl | omega) (by omega) ?_
    refine v_aload_n dX1_elect_71 rfl ?_
    refine v_getr dX1_elect_72 fr_X1_41 (by assumption) (by decide) rfl (by assumption) ?_
    refine v_getr dX1_elect_75 fr_X1_160 (by assumption) (by decide) rfl (by assumption) ?_
    refine v_iload_n dX1_elect_78 rfl ?_
    refine v_dup2 dX1_elect_79 rfl rfl ?_
    refine v_iald (j := r) dX1_elect_80 (by assumption) rfl (by omega) ?_
    rw [up_ne (by omega), up_ne (by omega), up_ne (by omega), up_ne (by omega), up_ne (by omega), hne]
    refine v_iconst dX1_elect_81 ?_
    refine v_iload_n dX1_elect_82 rfl ?_
    refine v_ishl (z := ((2 ^ q : Nat) : Int)) dX1_elect_83 (shl_b q hq) ?_
    refine v_ior (z := ((ne ||| 2 ^ q : Nat) : Int)) dX1_elect_84 (or_b ne hne8 q hq) ?_
    refine v_iast (j := r) dX1_elect_85 (by assumption) (by first | rfl | omega) (by omega) ?_
    refine v_aload_n dX1_elect_86 rfl ?_
    refine v_dup dX1_elect_87 rfl ?_
    refine v_geti dX1_elect_88 fr_X1_86 (by assumption) (by decide) rfl ?_
    rw [up_ne (by omega), up_ne (by omega), up_ne (by omega), up_ne (by omega), up_ne (by omega), up_ne (by omega), hh]
    refine v_iconst dX1_elect_91 ?_
    refine v_iload_n dX1_elect_92 rfl ?_
    refine v_ishl (z := ((2 ^ q : Nat) : Int)) dX1_elect_93 (shl_b q hq) ?_
    refine v_iconst dX1_elect_94 ?_
    refine v_ixor dX1_elect_95 (ii_of _).symm ?_
    refine v_iand (z := ((clr h q : Nat) : Int)) dX1_elect_96 (by rw [ii_of]; exact clr_b h hh8 q hq) ?_
    refine v_puti dX1_elect_97 fr_X1_86 (by assumption) (by decide) rfl ?_
    refine v_aload_n dX1_elect_100 rfl ?_
    refine v_dup dX1_elect_101 rfl ?_
    refine v_geti dX1_elect_102 fr_X1_89 (by assumption) (by decide) rfl ?_
    rw [up_nk (by omega), up_ne (by omega), up_ne (by omega), up_ne (by omega), up_ne (by omega), up_ne (by omega), up_ne (by omega), hu]
    refine v_iconst dX1_elect_105 ?_
    refine v_iload_n dX1_elect_106 rfl ?_
    refine v_ishl (z := ((2 ^ q : Nat) : Int)) dX1_elect_107 (shl_b q hq) ?_
    refine v_ior (z := ((u ||| 2 ^ q : Nat) : Int)) dX1_elect_108 (or_b u hu8 q hq) ?_
    refine v_puti dX1_elect_109 fr_X1_89 (by assumption) (by decide) rfl ?_
    exact v_vE dX1_elect_112 rfl (by unfold electM elI; rw [hec, hne, hh, hu]; rfl)

def wmB (I : II) (c k : Nat) : Int := if btI (I c 11).toNat k = 0 then 0 else if I c 13 < I (c + 47) k then 1 else 0
def wmF (I : II) (c : Nat) : Nat → Nat
  | 0 => 0
  | k + 1 => orF (wmF I c k) k (wmB I c k)
theorem orF_lt {s k : Nat} {b : Int} (h : s < 256) (hk : k < 8) : orF s k b < 256 := by
  unfold orF
  split
  · exact h
  · exact or_lt _ h k hk
theorem wmF_lt (I : II) (c : Nat) : ∀ k, k ≤ 8 → wmF I c k < 256
  | 0, _ => by
    show (0 : Nat) < 256
    decide
  | k + 1, h => orF_lt (wmF_lt I c k (by omega)) (by omega)

set_option maxRecDepth 100000 in
set_option maxHeartbeats 4000000 in
theorem c_withMore {l : Launch} {g : GV} {S : SS} {I : II} {X : XX} {c e u : Nat} (hfl : l.stackTraces = false) (hC : isCnt S c e) (hRG : RG I) (hu : I c 11 = (u : Int)) (hu8 : u < 256) : CE l g mX1_withMoreThanQuota 1 [.ref c] S I X (some (.int (ii (wmF I c 8 : Nat)))) I := by
  obtain ⟨n0, n1, n2, n3, n4, n5, n6, n6a, n7, n7a, n8, n8a, n9, n9a, n10, n10a, hR, hH, hF, hG, hE, hsp⟩ := id hC
  have L : ∀ k : Nat, k ≤ 8 → V l g mX1_withMoreThanQuota 1 (Zm g (QE (some (.int (ii (wmF I c 8 : Nat)))) S I X)) 0 0 4 [some (.ref c), some (.int (ii (wmF I c k : Nat))), some (.int (ii (k : Int)))] [] S I X := by
    refine loop_up fun k hk ih => ?_
    have hl8 := wmF_lt I c k hk
    refine v_iload_n dX1_withMoreThanQuota_4 rfl ?_
    refine v_bipush dX1_withMoreThanQuota_5 (by decide) ?_
    refine v_ic_ge (tgt := 46) dX1_withMoreThanQuota_7 (by decide) (fun h7 => ?_) (fun h7 => ?_)
    · obtain rfl : k = 8 := by omega
      refine v_iload_n dX1_withMoreThanQuota_46 rfl ?_
      exact v_iE dX1_withMoreThanQuota_47 rfl (rfl) (rfl)
    · refine v_aload_n dX1_withMoreThanQuota_10 rfl ?_
      refine v_geti dX1_withMoreThanQuota_11 fr_X1_89 (by assumption) (by decide) rfl ?_
      rw [hu]
      refine v_iload_n dX1_withMoreThanQuota_14 rfl ?_
      refine v_cN2 dX1_withMoreThanQuota_15 nb_X1_103 lk_X1_103 (c_contains hfl (s := u) (c := k) hu8 (by omega)) (by decide) (Nat.le_of_ble_eq_true rfl) ?_ rfl
      have h01 := btI_01 u k
      have ex : wmF I c (k + 1) = orF (wmF I c k) k (wmB I c k) := rfl
      have eb : wmB I c k = if btI u k = 0 then 0 else if I c 13 < I (c + 47) k then 1 else 0 := by unfold wmB; rw [show (I c 11).toNat = u by rw [hu]; rfl]
      refine v_if_eq (tgt := 40) dX1_withMoreThanQuota_18 (by decide) (fun h18 => ?_) (fun h18 => ?_)
      · refine v_iinc2 dX1_withMoreThanQuota_40 rfl ?_
        refine v_goto (tgt := 4) dX1_withMoreThanQuota_43 (by decide) ?_
        have q9 := ih (k + 1) (by omega) (by omega)
        rw [ex] at q9
        unfold orF at q9
        first | (rw [if_pos (show wmB I c k = 0 by rw [eb]; first | exact if_pos h18 | (rw [if_neg h18]; exact if_neg (by omega)))] at q9; exact q9) | (rw [if_neg (show ¬ wmB I c k = 0 by rw [eb, if_neg h18, if_pos (by omega)]; decide)] at q9; exact q9)
      · refine v_aload_n dX1_withMoreThanQuota_21 rfl ?_
        refine v_getr dX1_withMoreThanQuota_22 fr_X1_45 (by assumption) (by decide) rfl (by assumption) ?_
        refine v_iload_n dX1_withMoreThanQuota_25 rfl ?_
        refine v_iald (j := k) dX1_withMoreThanQuota_26 (by assumption) (by first | rfl | omega) (by omega) ?_
        refine v_aload_n dX1_withMoreThanQuota_27 rfl ?_
        refine v_geti dX1_withMoreThanQuota_28 fr_X1_75 (by assumption) (by decide) rfl ?_
        have g1 := hRG (c + 47) k
        have g2 := hRG c 13
        refine v_ic_le (tgt := 40) dX1_withMoreThanQuota_31 (by decide) (fun h31 => ?_) (fun h31 => ?_)
        · refine v_iinc2 dX1_withMoreThanQuota_40 rfl ?_
          refine v_goto (tgt := 4) dX1_withMoreThanQuota_43 (by decide) ?_
          have q9 := ih (k + 1) (by omega) (by omega)
          rw [ex] at q9
          unfold orF at q9
          first | (rw [if_pos (show wmB I c k = 0 by rw [eb]; first | exact if_pos h18 | (rw [if_neg h18]; exact if_neg (by omega)))] at q9; exact q9) | (rw [if_neg (show ¬ wmB I c k = 0 by rw [eb, if_neg h18, if_pos (by omega)]; decide)] at q9; exact q9)
        · refine v_iload_n dX1_withMoreThanQuota_34 rfl ?_
          refine v_iconst dX1_withMoreThanQuota_35 ?_
          refine v_iload_n dX1_withMoreThanQuota_36 rfl ?_
          refine v_ishl (z := ((2 ^ k : Nat) : Int)) dX1_withMoreThanQuota_37 (shl_b k (by omega)) ?_
          refine v_ior (z := ((wmF I c k ||| 2 ^ k : Nat) : Int)) dX1_withMoreThanQuota_38 (or_b _ hl8 k (by omega)) ?_
          refine v_istn1 dX1_withMoreThanQuota_39 rfl ?_
          refine v_iinc2 dX1_withMoreThanQuota_40 rfl ?_
          refine v_goto (tgt := 4) dX1_withMoreThanQuota_43 (by decide) ?_
          have q9 := ih (k + 1) (by omega) (by omega)
          rw [ex] at q9
          unfold orF at q9
          first | (rw [if_pos (show wmB I c k = 0 by rw [eb]; first | exact if_pos h18 | (rw [if_neg h18]; exact if_neg (by omega)))] at q9; exact q9) | (rw [if_neg (show ¬ wmB I c k = 0 by rw [eb, if_neg h18, if_pos (by omega)]; decide)] at q9; exact q9)
  refine v_startE hfl rfl (by decide) (Nat.le_of_ble_eq_true rfl) (ls := [some (.ref c), none, none]) rfl ?_
  refine v_iconst dX1_withMoreThanQuota_0 ?_
  refine v_istn1 dX1_withMoreThanQuota_1 rfl ?_
  refine v_iconst dX1_withMoreThanQuota_2 ?_
  refine v_istn2 dX1_withMoreThanQuota_3 rfl ?_
  exact L 0 (Nat.zero_le _)

def ipF (I : II) (c p : Nat) (cd pa : Int) : Int := if I (c + 48) p = cd ∧ (pa = -2 ∨ I (c + 50) p = pa) then 1 else 0
theorem ipF_01 (I : II) (c p : Nat) (cd pa : Int) : ipF I c p cd pa = 0 ∨ ipF I c p cd pa = 1 := by unfold ipF; split <;> omega
def lpF (I : II) (c e : Nat) (cd : Int) : Nat → Int
  | 0 => -1
  | k + 1 => if I (c + 48) k = cd ∧ 0 < I (e + 3) k ∧ lpF I c e cd k < I (c + 50) k then I (c + 50) k else lpF I c e cd k
theorem lpF_rng {I : II} {c e : Nat} {cd : Int} (h : RG I) : ∀ k, -2147483648 ≤ lpF I c e cd k ∧ lpF I c e cd k < 2147483648
  | 0 => by
    show -2147483648 ≤ (-1 : Int) ∧ (-1 : Int) < 2147483648
    decide
  | k + 1 => by
    show _ ≤ (if _ then _ else _) ∧ (if _ then _ else _) < _
    split
    · exact h _ _
    · exact lpF_rng h k
def wpF (I : II) (c e : Nat) (cd pa : Int) : Nat → Int
  | 0 => 0
  | k + 1 => if ipF I c k cd pa = 0 then wpF I c e cd pa k else wpF I c e cd pa k + I (e + 3) k * I (c + 51) k

set_option maxRecDepth 100000 in
set_option maxHeartbeats 4000000 in
theorem c_isInParcel {l : Launch} {g : GV} {S : SS} {I : II} {X : XX} {c e p : Nat} {cd pa : Int} (hfl : l.stackTraces = false) (hC : isCnt S c e) (hRG : RG I) (hp : p < 25) (hcd : -2147483648 ≤ cd ∧ cd < 2147483648) (hpa : -2147483648 ≤ pa ∧ pa < 2147483648) : CE l g mX1_isInParcel 0 [.ref c, .int (ii (p : Int)), .int (ii cd), .int (ii pa)] S I X (some (.int (ii (ipF I c p cd pa)))) I := by
  obtain ⟨n0, n1, n2, n3, n4, n5, n6, n6a, n7, n7a, n8, n8a, n9, n9a, n10, n10a, hR, hH, hF, hG, hE, hsp⟩ := id hC
  refine v_startE hfl rfl (by decide) (Nat.le_of_ble_eq_true rfl) (ls := [some (.ref c), some (.int (ii (p : Int))), some (.int (ii cd)), some (.int (ii pa))]) rfl ?_
  refine v_aload_n dX1_isInParcel_0 rfl ?_
  refine v_getr dX1_isInParcel_1 fr_X1_49 (by assumption) (by decide) rfl (by assumption) ?_
  refine v_iload_n dX1_isInParcel_4 rfl ?_
  refine v_iald (j := p) dX1_isInParcel_5 (by assumption) (by first | rfl | omega) (by omega) ?_
  refine v_iload_n dX1_isInParcel_6 rfl ?_
  have g1 := hRG (c + 48) p
  refine v_ic_ne (tgt := 30) dX1_isInParcel_7 (by decide) (fun h7 => ?_) (fun h7 => ?_)
  · refine v_iconst dX1_isInParcel_30 ?_
    exact v_zE dX1_isInParcel_31 rfl (by first | exact Or.inl rfl | exact Or.inr rfl | omega) (by unfold ipF; first | exact (if_pos (by omega)).symm | exact (if_neg (by omega)).symm) (rfl)
  · refine v_iload_n dX1_isInParcel_10 rfl ?_
    refine v_bipush dX1_isInParcel_11 (by decide) ?_
    refine v_ic_eq (tgt := 26) dX1_isInParcel_13 (by decide) (fun h13 => ?_) (fun h13 => ?_)
    · refine v_iconst dX1_isInParcel_26 ?_
      refine v_goto (tgt := 31) dX1_isInParcel_27 (by decide) ?_
      exact v_zE dX1_isInParcel_31 rfl (by first | exact Or.inl rfl | exact Or.inr rfl | omega) (by unfold ipF; first | exact (if_pos (by omega)).symm | exact (if_neg (by omega)).symm) (rfl)
    · refine v_aload_n dX1_isInParcel_16 rfl ?_
      refine v_getr dX1_isInParcel_17 fr_X1_55 (by assumption) (by decide) rfl (by assumption) ?_
      refine v_iload_n dX1_isInParcel_20 rfl ?_
      refine v_iald (j := p) dX1_isInParcel_21 (by assumption) (by first | rfl | omega) (by omega) ?_
      refine v_iload_n dX1_isInParcel_22 rfl ?_
      have g2 := hRG (c + 50) p
      refine v_ic_ne (tgt := 30) dX1_isInParcel_23 (by decide) (fun h23 => ?_) (fun h23 => ?_)
      · refine v_iconst dX1_isInParcel_30 ?_
        exact v_zE dX1_isInParcel_31 rfl (by first | exact Or.inl rfl | exact Or.inr rfl | omega) (by unfold ipF; first | exact (if_pos (by omega)).symm | exact (if_neg (by omega)).symm) (rfl)
      · refine v_iconst dX1_isInParcel_26 ?_
        refine v_goto (tgt := 31) dX1_isInParcel_27 (by decide) ?_
        exact v_zE dX1_isInParcel_31 rfl (by first | exact Or.inl rfl | exact Or.inr rfl | omega) (by unfold ipF; first | exact (if_pos (by omega)).symm | exact (if_neg (by omega)).symm) (rfl)

set_option maxRecDepth 100000 in
set_option maxHeartbeats 4000000 in
theorem c_lastParcel {l : Launch} {g : GV} {S : SS} {I : II} {X : XX} {c e : Nat} {cd : Int} (hfl : l.stackTraces = false) (hC : isCnt S c e) (hW : WfE I e) (hRG : RG I) (hcd : -2147483648 ≤ cd ∧ cd < 2147483648) : CE l g mX1_lastParcel 0 [.ref c, .int (ii cd)] S I X (some (.int (ii (lpF I c e cd (I e 4).toNat)))) I := by
  obtain ⟨n0, n1, n2, n3, n4, n5, n6, n6a, n7, n7a, n8, n8a, n9, n9a, n10, n10a, hR, hH, hF, hG, hE, hsp⟩ := id hC
  obtain ⟨y0, y1, y1a, y2, y2a, y3, y3a, y4, y4a, y5, y5a, yr⟩ := id hE
  obtain ⟨w0, w1, w2, w3, -⟩ := id hW
  obtain ⟨n, hn⟩ := Int.eq_ofNat_of_zero_le w2
  rw [show (I e 4).toNat = n by rw [hn]; rfl]
  have L : ∀ k : Nat, k ≤ n → V l g mX1_lastParcel 0 (Zm g (QE (some (.int (ii (lpF I c e cd n)))) S I X)) 0 0 4 [some (.ref c), some (.int (ii cd)), some (.int (ii (lpF I c e cd k))), some (.int (ii (k : Int)))] [] S I X := by
    refine loop_up fun k hk ih => ?_
    refine v_iload_n dX1_lastParcel_4 rfl ?_
    refine v_aload_n dX1_lastParcel_5 rfl ?_
    refine v_getr dX1_lastParcel_6 fr_X1_9 (by assumption) (by decide) rfl (by assumption) ?_
    refine v_geti dX1_lastParcel_9 fr_X1_130 (by assumption) (by decide) rfl ?_
    refine v_ic_ge (tgt := 60) dX1_lastParcel_12 (by decide) (fun h12 => ?_) (fun h12 => ?_)
    · obtain rfl : k = n := by omega
      refine v_iload_n dX1_lastParcel_60 rfl ?_
      exact v_iE dX1_lastParcel_61 rfl (rfl) (rfl)
    · have g1 := hRG (c + 48) k
      have g2 := hRG (c + 50) k
      have g3 := hRG (e + 3) k
      have g4 := lpF_rng (c := c) (e := e) (cd := cd) hRG k
      have ex : lpF I c e cd (k + 1) = if I (c + 48) k = cd ∧ 0 < I (e + 3) k ∧ lpF I c e cd k < I (c + 50) k then I (c + 50) k else lpF I c e cd k := rfl
      refine v_aload_n dX1_lastParcel_15 rfl ?_
      refine v_getr dX1_lastParcel_16 fr_X1_49 (by assumption) (by decide) rfl (by assumption) ?_
      refine v_iload_n dX1_lastParcel_19 rfl ?_
      refine v_iald (j := k) dX1_lastParcel_20 (by assumption) (by first | rfl | omega) (by omega) ?_
      refine v_iload_n dX1_lastParcel_21 rfl ?_
      refine v_ic_ne (tgt := 54) dX1_lastParcel_22 (by decide) (fun h22 => ?_) (fun h22 => ?_)
      · refine v_iinc3 dX1_lastParcel_54 rfl ?_
        refine v_goto (tgt := 4) dX1_lastParcel_57 (by decide) ?_
        have q9 := ih (k + 1) (by omega) (by omega)
        rw [ex] at q9
        first | (rw [if_pos (by omega)] at q9; exact q9) | (rw [if_neg (by omega)] at q9; exact q9)
      · refine v_aload_n dX1_lastParcel_25 rfl ?_
        refine v_getr dX1_lastParcel_26 fr_X1_9 (by assumption) (by decide) rfl (by assumption) ?_
        refine v_getr dX1_lastParcel_29 fr_X1_227 (by assumption) (by decide) rfl (by assumption) ?_
        refine v_iload_n dX1_lastParcel_32 rfl ?_
        refine v_iald (j := k) dX1_lastParcel_33 (by assumption) (by first | rfl | omega) (by omega) ?_
        refine v_if_le (tgt := 54) dX1_lastParcel_34 (by decide) (fun h34 => ?_) (fun h34 => ?_)
        · refine v_iinc3 dX1_lastParcel_54 rfl ?_
          refine v_goto (tgt := 4) dX1_lastParcel_57 (by decide) ?_
          have q9 := ih (k + 1) (by omega) (by omega)
          rw [ex] at q9
          first | (rw [if_pos (by omega)] at q9; exact q9) | (rw [if_neg (by omega)] at q9; exact q9)
        · refine v_aload_n dX1_lastParcel_37 rfl ?_
          refine v_getr dX1_lastParcel_38 fr_X1_55 (by assumption) (by decide) rfl (by assumption) ?_
          refine v_iload_n dX1_lastParcel_41 rfl ?_
          refine v_iald (j := k) dX1_lastParcel_42 (by assumption) (by first | rfl | omega) (by omega) ?_
          refine v_iload_n dX1_lastParcel_43 rfl ?_
          refine v_ic_le (tgt := 54) dX1_lastParcel_44 (by decide) (fun h44 => ?_) (fun h44 => ?_)
          · refine v_iinc3 dX1_lastParcel_54 rfl ?_
            refine v_goto (tgt := 4) dX1_lastParcel_57 (by decide) ?_
            have q9 := ih (k + 1) (by omega) (by omega)
            rw [ex] at q9
            first | (rw [if_pos (by omega)] at q9; exact q9) | (rw [if_neg (by omega)] at q9; exact q9)
          · refine v_aload_n dX1_lastParcel_47 rfl ?_
            refine v_getr dX1_lastParcel_48 fr_X1_55 (by assumption) (by decide) rfl (by assumption) ?_
            refine v_iload_n dX1_lastParcel_51 rfl ?_
            refine v_iald (j := k) dX1_lastParcel_52 (by assumption) (by first | rfl | omega) (by omega) ?_
            refine v_istn2 dX1_lastParcel_53 rfl ?_
            refine v_iinc3 dX1_lastParcel_54 rfl ?_
            refine v_goto (tgt := 4) dX1_lastParcel_57 (by decide) ?_
            have q9 := ih (k + 1) (by omega) (by omega)
            rw [ex] at q9
            first | (rw [if_pos (by omega)] at q9; exact q9) | (rw [if_neg (by omega)] at q9; exact q9)
  refine v_startE hfl rfl (by decide) (Nat.le_of_ble_eq_true rfl) (ls := [some (.ref c), some (.int (ii cd)), none, none]) rfl ?_
  refine v_iconst dX1_lastParcel_0 ?_
  refine v_istn2 dX1_lastParcel_1 rfl ?_
  refine v_iconst dX1_lastParcel_2 ?_
  refine v_istn3 dX1_lastParcel_3 rfl ?_
  exact L 0 (Nat.zero_le _)

set_option maxRecDepth 100000 in
set_option maxHeartbeats 4000000 in
theorem c_worthOfParcel {l : Launch} {g : GV} {S : SS} {I : II} {X : XX} {c e : Nat} {cd pa : Int} (hfl : l.stackTraces = false) (hC : isCnt S c e) (hW : WfE I e) (hRG : RG I) (hcd : -2147483648 ≤ cd ∧ cd < 2147483648) (hpa : -2147483648 ≤ pa ∧ pa < 2147483648) : CE l g mX1_worthOfParcel 1 [.ref c, .int (ii cd), .int (ii pa)] S I X (some (.int (ii (wpF I c e cd pa (I e 4).toNat)))) I := by
  obtain ⟨n0, n1, n2, n3, n4, n5, n6, n6a, n7, n7a, n8, n8a, n9, n9a, n10, n10a, hR, hH, hF, hG, hE, hsp⟩ := id hC
  obtain ⟨y0, y1, y1a, y2, y2a, y3, y3a, y4, y4a, y5, y5a, yr⟩ := id hE
  obtain ⟨w0, w1, w2, w3, -⟩ := id hW
  obtain ⟨n, hn⟩ := Int.eq_ofNat_of_zero_le w2
  rw [show (I e 4).toNat = n by rw [hn]; rfl]
  have L : ∀ k : Nat, k ≤ n → V l g mX1_worthOfParcel 1 (Zm g (QE (some (.int (ii (wpF I c e cd pa n)))) S I X)) 0 0 5 [some (.ref c), some (.int (ii cd)), some (.int (ii pa)), some (.int (ii (wpF I c e cd pa k))), some (.int (ii (k : Int)))] [] S I X := by
    refine loop_up fun k hk ih => ?_
    refine v_iload dX1_worthOfParcel_5 rfl ?_
    refine v_aload_n dX1_worthOfParcel_7 rfl ?_
    refine v_getr dX1_worthOfParcel_8 fr_X1_9 (by assumption) (by decide) rfl (by assumption) ?_
    refine v_geti dX1_worthOfParcel_11 fr_X1_130 (by assumption) (by decide) rfl ?_
    refine v_ic_ge (tgt := 55) dX1_worthOfParcel_14 (by decide) (fun h14 => ?_) (fun h14 => ?_)
    · obtain rfl : k = n := by omega
      refine v_iload_n dX1_worthOfParcel_55 rfl ?_
      exact v_iE dX1_worthOfParcel_56 rfl (rfl) (rfl)
    · refine v_aload_n dX1_worthOfParcel_17 rfl ?_
      refine v_iload dX1_worthOfParcel_18 rfl ?_
      refine v_iload_n dX1_worthOfParcel_20 rfl ?_
      refine v_iload_n dX1_worthOfParcel_21 rfl ?_
      refine v_cV3 dX1_worthOfParcel_22 lk_X1_215 (by assumption) (by decide) rfl (c_isInParcel hfl hC hRG (by omega) hcd hpa) (by decide) (Nat.le_of_ble_eq_true rfl) ?_ rfl
      have h01 := ipF_01 I c k cd pa
      have ex : wpF I c e cd pa (k + 1) = if ipF I c k cd pa = 0 then wpF I c e cd pa k else wpF I c e cd pa k + I (e + 3) k * I (c + 51) k := rfl
      refine v_if_eq (tgt := 49) dX1_worthOfParcel_25 (by decide) (fun h25 => ?_) (fun h25 => ?_)
      · refine v_iinc4 dX1_worthOfParcel_49 rfl ?_
        refine v_goto (tgt := 5) dX1_worthOfParcel_52 (by decide) ?_
        have q9 := ih (k + 1) (by omega) (by omega)
        rw [ex] at q9
        first | (rw [if_pos h25] at q9; exact q9) | (rw [if_neg h25] at q9; exact q9)
      · refine v_iload_n dX1_worthOfParcel_28 rfl ?_
        refine v_aload_n dX1_worthOfParcel_29 rfl ?_
        refine v_getr dX1_worthOfParcel_30 fr_X1_9 (by assumption) (by decide) rfl (by assumption) ?_
        refine v_getr dX1_worthOfParcel_33 fr_X1_227 (by assumption) (by decide) rfl (by assumption) ?_
        refine v_iload dX1_worthOfParcel_36 rfl ?_
        refine v_iald (j := k) dX1_worthOfParcel_38 (by assumption) (by first | rfl | omega) (by omega) ?_
        refine v_aload_n dX1_worthOfParcel_39 rfl ?_
        refine v_getr dX1_worthOfParcel_40 fr_X1_58 (by assumption) (by decide) rfl (by assumption) ?_
        refine v_iload dX1_worthOfParcel_43 rfl ?_
        refine v_iald (j := k) dX1_worthOfParcel_45 (by assumption) (by first | rfl | omega) (by omega) ?_
        refine v_imul dX1_worthOfParcel_46 ?_
        refine v_iadd dX1_worthOfParcel_47 ?_
        refine v_istn3 dX1_worthOfParcel_48 rfl ?_
        refine v_iinc4 dX1_worthOfParcel_49 rfl ?_
        refine v_goto (tgt := 5) dX1_worthOfParcel_52 (by decide) ?_
        have q9 := ih (k + 1) (by omega) (by omega)
        rw [ex] at q9
        first | (rw [if_pos h25] at q9; exact q9) | (rw [if_neg h25] at q9; exact q9)
  refine v_startE hfl rfl (by decide) (Nat.le_of_ble_eq_true rfl) (ls := [some (.ref c), some (.int (ii cd)), some (.int (ii pa)), none, none]) rfl ?_
  refine v_iconst dX1_worthOfParcel_0 ?_
  refine v_istn3 dX1_worthOfParcel_1 rfl ?_
  refine v_iconst dX1_worthOfParcel_2 ?_
  refine v_ist4 dX1_worthOfParcel_3 rfl ?_
  exact L 0 (Nat.zero_le _)
