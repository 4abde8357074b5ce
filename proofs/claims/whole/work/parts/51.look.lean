/-! THE MODEL: who is looked for -/
def mVt (I : II) (r c : Nat) : Int := I 515 (8 * r + c)

set_option maxRecDepth 100000 in
set_option maxHeartbeats 4000000 in
theorem k_foremost {l : Launch} {g : GV} {S : SS} {I : II} {X : XX} {s r : Nat} {m : Int} (hfl : l.stackTraces = false) (hM : isMod S) (hW : WfM I) (hRG : RG I) (hs : s < 256) (hr : r < 9) (hm : m = 0 ∨ m = 1) : CE l g mX9_foremost 1 [.ref 508, .int (ii (s : Int)), .int (ii (r : Int)), .int (ii m)] S I X (some (.int (ii ((extF (mVt I r) s m (I 509 0).toNat).1 : Nat)))) I := by
  obtain ⟨m0, ⟨p509, q509⟩, ⟨p510, q510⟩, ⟨p511, q511⟩, ⟨p512, q512⟩, ⟨p513, q513⟩, ⟨p514, q514⟩, ⟨p515, q515⟩, ⟨p516, q516⟩, ⟨p517, q517⟩, ⟨p518, q518⟩, ⟨p519, q519⟩, ⟨p520, q520⟩, ⟨p521, q521⟩, ⟨p522, q522⟩, ⟨p523, q523⟩, ⟨p524, q524⟩, ⟨p525, q525⟩, ⟨p526, q526⟩, ⟨p527, q527⟩, ⟨p528, q528⟩, ⟨p529, q529⟩, ⟨p530, q530⟩, ⟨p531, q531⟩, ⟨p532, q532⟩, ⟨p533, q533⟩, ⟨p534, q534⟩, ⟨p535, q535⟩, ⟨p536, q536⟩, ⟨p537, q537⟩, ⟨p538, q538⟩, ⟨p539, q539⟩, ⟨p540, q540⟩⟩ := id hM
  obtain ⟨w0, w1, w2, w3, w4, w5, w6, w7, w8, w9, w10⟩ := id hW
  obtain ⟨n, hn⟩ := Int.eq_ofNat_of_zero_le (show 0 ≤ I 509 0 by omega)
  rw [show (I 509 0).toNat = n by rw [hn]; rfl]
  have L : ∀ k : Nat, k ≤ n → V l g mX9_foremost 1 (Zm g (QE (some (.int (ii ((extF (mVt I r) s m n).1 : Nat)))) S I X)) 0 0 9 [some (.ref 508), some (.int (ii (s : Int))), some (.int (ii (r : Int))), some (.int (ii m)), some (.int (ii ((extF (mVt I r) s m k).1 : Nat))), some (.int (ii (extF (mVt I r) s m k).2)), some (.int (ii (k : Int))), none, none] [] S I X := by
    refine loop_up fun k hk ih => ?_
    refine v_iload dX9_foremost_9 rfl ?_
    refine v_aload_n dX9_foremost_11 rfl ?_
    refine v_getr dX9_foremost_12 fr_X9_9 (by assumption) (by decide) rfl (by assumption) ?_
    refine v_iconst dX9_foremost_15 ?_
    refine v_iald (j := 0) dX9_foremost_16 (by assumption) (by first | rfl | omega) (by omega) ?_
    refine v_ic_ge (tgt := 125) dX9_foremost_17 (by decide) (fun h17 => ?_) (fun h17 => ?_)
    · obtain rfl : k = n := by omega
      refine v_iload dX9_foremost_125 rfl ?_
      exact v_iE dX9_foremost_127 rfl (rfl) (rfl)
    · have g := hRG 515 (8 * r + k)
      have hEk := extF_ok (f := mVt I r) (s := s) (m := m) (fun c _ => hRG _ _) k (by omega)
      have gm : mVt I r k = I 515 (8 * r + k) := rfl
      have ex : extF (mVt I r) s m (k + 1) = exS (mVt I r) s m k (extF (mVt I r) s m k) := rfl
      unfold exS at ex
      rw [gm] at ex
      have hk8 : k < 8 := by omega
      have h01 := btI_01 s k
      generalize hE : extF (mVt I r) s m k = E at hEk ex ⊢
      refine v_iload_n dX9_foremost_20 rfl ?_
      refine v_iload dX9_foremost_21 rfl ?_
      refine v_ishr (z := ((s / 2 ^ k : Nat) : Int)) dX9_foremost_23 (shr_b s hs k hk8) ?_
      refine v_iconst dX9_foremost_24 ?_
      refine v_iand (z := btI s k) dX9_foremost_25 (and_b _ (by have := Nat.div_le_self s (2 ^ k); omega)) ?_
      refine v_iconst dX9_foremost_26 ?_
      refine v_ic_ne (tgt := 119) dX9_foremost_27 (by decide) (fun h27 => ?_) (fun h27 => ?_)
      · refine v_iinc6 dX9_foremost_119 rfl ?_
        refine v_goto (tgt := 9) dX9_foremost_122 (by decide) ?_
        first
          | (exfalso; omega)
          | (have q9 := ih (k + 1) (by omega) (by omega)
             rw [ex] at q9
             first
               | (rw [if_pos (by omega)] at q9; exact v_fgt2 q9 (fgt_c (Or.inr rfl) (fgt_c (Or.inr rfl) (fgt_c (Or.inr rfl) (fgt_c (Or.inr rfl) (fgt_c (Or.inr rfl) (fgt_c (Or.inr rfl) (fgt_c (Or.inr rfl) (fgt_c (Or.inl rfl) (fgt_c (Or.inl rfl) (fgt_n)))))))))))
               | (rw [if_neg (by omega), if_pos (by omega)] at q9; exact v_fgt2 q9 (fgt_c (Or.inr rfl) (fgt_c (Or.inr rfl) (fgt_c (Or.inr rfl) (fgt_c (Or.inr rfl) (fgt_c (Or.inr rfl) (fgt_c (Or.inr rfl) (fgt_c (Or.inr rfl) (fgt_c (Or.inl rfl) (fgt_c (Or.inl rfl) (fgt_n)))))))))))
               | (rw [if_neg (by omega), if_neg (by omega), if_pos (by omega)] at q9; exact v_fgt2 q9 (fgt_c (Or.inr rfl) (fgt_c (Or.inr rfl) (fgt_c (Or.inr rfl) (fgt_c (Or.inr rfl) (fgt_c (Or.inr rfl) (fgt_c (Or.inr rfl) (fgt_c (Or.inr rfl) (fgt_c (Or.inl rfl) (fgt_c (Or.inl rfl) (fgt_n)))))))))))
               | (rw [if_neg (by omega), if_neg (by omega), if_neg (by omega)] at q9; exact v_fgt2 q9 (fgt_c (Or.inr rfl) (fgt_c (Or.inr rfl) (fgt_c (Or.inr rfl) (fgt_c (Or.inr rfl) (fgt_c (Or.inr rfl) (fgt_c (Or.inr rfl) (fgt_c (Or.inr rfl) (fgt_c (Or.inl rfl) (fgt_c (Or.inl rfl) (fgt_n))))))))))))
      · refine v_aload_n dX9_foremost_30 rfl ?_
        refine v_iload_n dX9_foremost_31 rfl ?_
        refine v_iload dX9_foremost_32 rfl ?_
        refine v_cV2 dX9_foremost_34 lk_X9_231 (by assumption) (by decide) rfl (k_votesIn hfl hM (by omega) hk8) (by decide) (Nat.le_of_ble_eq_true rfl) ?_ rfl
        refine v_ist7 dX9_foremost_37 rfl ?_
        refine v_iload dX9_foremost_39 rfl ?_
        refine v_if_eq (tgt := 65) dX9_foremost_41 (by decide) (fun h41 => ?_) (fun h41 => ?_)
        · refine v_iconst dX9_foremost_65 ?_
          refine v_goto (tgt := 70) dX9_foremost_66 (by decide) ?_
          refine v_ist8 dX9_foremost_70 rfl ?_
          refine v_iload dX9_foremost_72 rfl ?_
          refine v_if_eq (tgt := 84) dX9_foremost_74 (by decide) (fun h74 => ?_) (fun h74 => ?_)
          · refine v_iload dX9_foremost_84 rfl ?_
            refine v_iload dX9_foremost_86 rfl ?_
            refine v_ic_ne (tgt := 101) dX9_foremost_88 (by decide) (fun h88 => ?_) (fun h88 => ?_)
            · refine v_iload dX9_foremost_101 rfl ?_
              refine v_ist4 dX9_foremost_103 rfl ?_
              refine v_iload dX9_foremost_105 rfl ?_
              refine v_if_eq (tgt := 115) dX9_foremost_107 (by decide) (fun h107 => ?_) (fun h107 => ?_)
              · refine v_iload dX9_foremost_115 rfl ?_
                refine v_ist5 dX9_foremost_117 rfl ?_
                refine v_iinc6 dX9_foremost_119 rfl ?_
                refine v_goto (tgt := 9) dX9_foremost_122 (by decide) ?_
                first
                  | (exfalso; omega)
                  | (have q9 := ih (k + 1) (by omega) (by omega)
                     rw [ex] at q9
                     first
                       | (rw [if_pos (by omega)] at q9; exact v_fgt2 q9 (fgt_c (Or.inr rfl) (fgt_c (Or.inr rfl) (fgt_c (Or.inr rfl) (fgt_c (Or.inr rfl) (fgt_c (Or.inr rfl) (fgt_c (Or.inr rfl) (fgt_c (Or.inr rfl) (fgt_c (Or.inl rfl) (fgt_c (Or.inl rfl) (fgt_n)))))))))))
                       | (rw [if_neg (by omega), if_pos (by omega)] at q9; exact v_fgt2 q9 (fgt_c (Or.inr rfl) (fgt_c (Or.inr rfl) (fgt_c (Or.inr rfl) (fgt_c (Or.inr rfl) (fgt_c (Or.inr rfl) (fgt_c (Or.inr rfl) (fgt_c (Or.inr rfl) (fgt_c (Or.inl rfl) (fgt_c (Or.inl rfl) (fgt_n)))))))))))
                       | (rw [if_neg (by omega), if_neg (by omega), if_pos (by omega)] at q9; exact v_fgt2 q9 (fgt_c (Or.inr rfl) (fgt_c (Or.inr rfl) (fgt_c (Or.inr rfl) (fgt_c (Or.inr rfl) (fgt_c (Or.inr rfl) (fgt_c (Or.inr rfl) (fgt_c (Or.inr rfl) (fgt_c (Or.inl rfl) (fgt_c (Or.inl rfl) (fgt_n)))))))))))
                       | (rw [if_neg (by omega), if_neg (by omega), if_neg (by omega)] at q9; exact v_fgt2 q9 (fgt_c (Or.inr rfl) (fgt_c (Or.inr rfl) (fgt_c (Or.inr rfl) (fgt_c (Or.inr rfl) (fgt_c (Or.inr rfl) (fgt_c (Or.inr rfl) (fgt_c (Or.inr rfl) (fgt_c (Or.inl rfl) (fgt_c (Or.inl rfl) (fgt_n))))))))))))
              · refine v_iload dX9_foremost_110 rfl ?_
                refine v_goto (tgt := 117) dX9_foremost_112 (by decide) ?_
                refine v_ist5 dX9_foremost_117 rfl ?_
                refine v_iinc6 dX9_foremost_119 rfl ?_
                refine v_goto (tgt := 9) dX9_foremost_122 (by decide) ?_
                first
                  | (exfalso; omega)
                  | (have q9 := ih (k + 1) (by omega) (by omega)
                     rw [ex] at q9
                     first
                       | (rw [if_pos (by omega)] at q9; exact v_fgt2 q9 (fgt_c (Or.inr rfl) (fgt_c (Or.inr rfl) (fgt_c (Or.inr rfl) (fgt_c (Or.inr rfl) (fgt_c (Or.inr rfl) (fgt_c (Or.inr rfl) (fgt_c (Or.inr rfl) (fgt_c (Or.inl rfl) (fgt_c (Or.inl rfl) (fgt_n)))))))))))
                       | (rw [if_neg (by omega), if_pos (by omega)] at q9; exact v_fgt2 q9 (fgt_c (Or.inr rfl) (fgt_c (Or.inr rfl) (fgt_c (Or.inr rfl) (fgt_c (Or.inr rfl) (fgt_c (Or.inr rfl) (fgt_c (Or.inr rfl) (fgt_c (Or.inr rfl) (fgt_c (Or.inl rfl) (fgt_c (Or.inl rfl) (fgt_n)))))))))))
                       | (rw [if_neg (by omega), if_neg (by omega), if_pos (by omega)] at q9; exact v_fgt2 q9 (fgt_c (Or.inr rfl) (fgt_c (Or.inr rfl) (fgt_c (Or.inr rfl) (fgt_c (Or.inr rfl) (fgt_c (Or.inr rfl) (fgt_c (Or.inr rfl) (fgt_c (Or.inr rfl) (fgt_c (Or.inl rfl) (fgt_c (Or.inl rfl) (fgt_n)))))))))))
                       | (rw [if_neg (by omega), if_neg (by omega), if_neg (by omega)] at q9; exact v_fgt2 q9 (fgt_c (Or.inr rfl) (fgt_c (Or.inr rfl) (fgt_c (Or.inr rfl) (fgt_c (Or.inr rfl) (fgt_c (Or.inr rfl) (fgt_c (Or.inr rfl) (fgt_c (Or.inr rfl) (fgt_c (Or.inl rfl) (fgt_c (Or.inl rfl) (fgt_n))))))))))))
            · refine v_iload dX9_foremost_91 rfl ?_
              refine v_iconst dX9_foremost_93 ?_
              refine v_iload dX9_foremost_94 rfl ?_
              refine v_ishl (z := ((2 ^ k : Nat) : Int)) dX9_foremost_96 (shl_b k hk8) ?_
              refine v_ior (z := ((E.1 ||| 2 ^ k : Nat) : Int)) dX9_foremost_97 (or_b _ hEk.1 k hk8) ?_
              refine v_goto (tgt := 103) dX9_foremost_98 (by decide) ?_
              refine v_ist4 dX9_foremost_103 rfl ?_
              refine v_iload dX9_foremost_105 rfl ?_
              refine v_if_eq (tgt := 115) dX9_foremost_107 (by decide) (fun h107 => ?_) (fun h107 => ?_)
              · refine v_iload dX9_foremost_115 rfl ?_
                refine v_ist5 dX9_foremost_117 rfl ?_
                refine v_iinc6 dX9_foremost_119 rfl ?_
                refine v_goto (tgt := 9) dX9_foremost_122 (by decide) ?_
                first
                  | (exfalso; omega)
                  | (have q9 := ih (k + 1) (by omega) (by omega)
                     rw [ex] at q9
                     first
                       | (rw [if_pos (by omega)] at q9; exact v_fgt2 q9 (fgt_c (Or.inr rfl) (fgt_c (Or.inr rfl) (fgt_c (Or.inr rfl) (fgt_c (Or.inr rfl) (fgt_c (Or.inr rfl) (fgt_c (Or.inr rfl) (fgt_c (Or.inr rfl) (fgt_c (Or.inl rfl) (fgt_c (Or.inl rfl) (fgt_n)))))))))))
                       | (rw [if_neg (by omega), if_pos (by omega)] at q9; exact v_fgt2 q9 (fgt_c (Or.inr rfl) (fgt_c (Or.inr rfl) (fgt_c (Or.inr rfl) (fgt_c (Or.inr rfl) (fgt_c (Or.inr rfl) (fgt_c (Or.inr rfl) (fgt_c (Or.inr rfl) (fgt_c (Or.inl rfl) (fgt_c (Or.inl rfl) (fgt_n)))))))))))
                       | (rw [if_neg (by omega), if_neg (by omega), if_pos (by omega)] at q9; exact v_fgt2 q9 (fgt_c (Or.inr rfl) (fgt_c (Or.inr rfl) (fgt_c (Or.inr rfl) (fgt_c (Or.inr rfl) (fgt_c (Or.inr rfl) (fgt_c (Or.inr rfl) (fgt_c (Or.inr rfl) (fgt_c (Or.inl rfl) (fgt_c (Or.inl rfl) (fgt_n)))))))))))
                       | (rw [if_neg (by omega), if_neg (by omega), if_neg (by omega)] at q9; exact v_fgt2 q9 (fgt_c (Or.inr rfl) (fgt_c (Or.inr rfl) (fgt_c (Or.inr rfl) (fgt_c (Or.inr rfl) (fgt_c (Or.inr rfl) (fgt_c (Or.inr rfl) (fgt_c (Or.inr rfl) (fgt_c (Or.inl rfl) (fgt_c (Or.inl rfl) (fgt_n))))))))))))
              · refine v_iload dX9_foremost_110 rfl ?_
                refine v_goto (tgt := 117) dX9_foremost_112 (by decide) ?_
                refine v_ist5 dX9_foremost_117 rfl ?_
                refine v_iinc6 dX9_foremost_119 rfl ?_
                refine v_goto (tgt := 9) dX9_foremost_122 (by decide) ?_
                first
                  | (exfalso; omega)
                  | (have q9 := ih (k + 1) (by omega) (by omega)
                     rw [ex] at q9
                     first
                       | (rw [if_pos (by omega)] at q9; exact v_fgt2 q9 (fgt_c (Or.inr rfl) (fgt_c (Or.inr rfl) (fgt_c (Or.inr rfl) (fgt_c (Or.inr rfl) (fgt_c (Or.inr rfl) (fgt_c (Or.inr rfl) (fgt_c (Or.inr rfl) (fgt_c (Or.inl rfl) (fgt_c (Or.inl rfl) (fgt_n)))))))))))
                       | (rw [if_neg (by omega), if_pos (by omega)] at q9; exact v_fgt2 q9 (fgt_c (Or.inr rfl) (fgt_c (Or.inr rfl) (fgt_c (Or.inr rfl) (fgt_c (Or.inr rfl) (fgt_c (Or.inr rfl) (fgt_c (Or.inr rfl) (fgt_c (Or.inr rfl) (fgt_c (Or.inl rfl) (fgt_c (Or.inl rfl) (fgt_n)))))))))))
                       | (rw [if_neg (by omega), if_neg (by omega), if_pos (by omega)] at q9; exact v_fgt2 q9 (fgt_c (Or.inr rfl) (fgt_c (Or.inr rfl) (fgt_c (Or.inr rfl) (fgt_c (Or.inr rfl) (fgt_c (Or.inr rfl) (fgt_c (Or.inr rfl) (fgt_c (Or.inr rfl) (fgt_c (Or.inl rfl) (fgt_c (Or.inl rfl) (fgt_n)))))))))))
                       | (rw [if_neg (by omega), if_neg (by omega), if_neg (by omega)] at q9; exact v_fgt2 q9 (fgt_c (Or.inr rfl) (fgt_c (Or.inr rfl) (fgt_c (Or.inr rfl) (fgt_c (Or.inr rfl) (fgt_c (Or.inr rfl) (fgt_c (Or.inr rfl) (fgt_c (Or.inr rfl) (fgt_c (Or.inl rfl) (fgt_c (Or.inl rfl) (fgt_n))))))))))))
          · refine v_iconst dX9_foremost_77 ?_
            refine v_iload dX9_foremost_78 rfl ?_
            refine v_ishl (z := ((2 ^ k : Nat) : Int)) dX9_foremost_80 (shl_b k hk8) ?_
            refine v_goto (tgt := 103) dX9_foremost_81 (by decide) ?_
            refine v_ist4 dX9_foremost_103 rfl ?_
            refine v_iload dX9_foremost_105 rfl ?_
            refine v_if_eq (tgt := 115) dX9_foremost_107 (by decide) (fun h107 => ?_) (fun h107 => ?_)
            · refine v_iload dX9_foremost_115 rfl ?_
              refine v_ist5 dX9_foremost_117 rfl ?_
              refine v_iinc6 dX9_foremost_119 rfl ?_
              refine v_goto (tgt := 9) dX9_foremost_122 (by decide) ?_
              first
                | (exfalso; omega)
                | (have q9 := ih (k + 1) (by omega) (by omega)
                   rw [ex] at q9
                   first
                     | (rw [if_pos (by omega)] at q9; exact v_fgt2 q9 (fgt_c (Or.inr rfl) (fgt_c (Or.inr rfl) (fgt_c (Or.inr rfl) (fgt_c (Or.inr rfl) (fgt_c (Or.inr rfl) (fgt_c (Or.inr rfl) (fgt_c (Or.inr rfl) (fgt_c (Or.inl rfl) (fgt_c (Or.inl rfl) (fgt_n)))))))))))
                     | (rw [if_neg (by omega), if_pos (by omega)] at q9; exact v_fgt2 q9 (fgt_c (Or.inr rfl) (fgt_c (Or.inr rfl) (fgt_c (Or.inr rfl) (fgt_c (Or.inr rfl) (fgt_c (Or.inr rfl) (fgt_c (Or.inr rfl) (fgt_c (Or.inr rfl) (fgt_c (Or.inl rfl) (fgt_c (Or.inl rfl) (fgt_n)))))))))))
                     | (rw [if_neg (by omega), if_neg (by omega), if_pos (by omega)] at q9; exact v_fgt2 q9 (fgt_c (Or.inr rfl) (fgt_c (Or.inr rfl) (fgt_c (Or.inr rfl) (fgt_c (Or.inr rfl) (fgt_c (Or.inr rfl) (fgt_c (Or.inr rfl) (fgt_c (Or.inr rfl) (fgt_c (Or.inl rfl) (fgt_c (Or.inl rfl) (fgt_n)))))))))))
                     | (rw [if_neg (by omega), if_neg (by omega), if_neg (by omega)] at q9; exact v_fgt2 q9 (fgt_c (Or.inr rfl) (fgt_c (Or.inr rfl) (fgt_c (Or.inr rfl) (fgt_c (Or.inr rfl) (fgt_c (Or.inr rfl) (fgt_c (Or.inr rfl) (fgt_c (Or.inr rfl) (fgt_c (Or.inl rfl) (fgt_c (Or.inl rfl) (fgt_n))))))))))))
            · refine v_iload dX9_foremost_110 rfl ?_
              refine v_goto (tgt := 117) dX9_foremost_112 (by decide) ?_
              refine v_ist5 dX9_foremost_117 rfl ?_
              refine v_iinc6 dX9_foremost_119 rfl ?_
              refine v_goto (tgt := 9) dX9_foremost_122 (by decide) ?_
              first
                | (exfalso; omega)
                | (have q9 := ih (k + 1) (by omega) (by omega)
                   rw [ex] at q9
                   first
                     | (rw [if_pos (by omega)] at q9; exact v_fgt2 q9 (fgt_c (Or.inr rfl) (fgt_c (Or.inr rfl) (fgt_c (Or.inr rfl) (fgt_c (Or.inr rfl) (fgt_c (Or.inr rfl) (fgt_c (Or.inr rfl) (fgt_c (Or.inr rfl) (fgt_c (Or.inl rfl) (fgt_c (Or.inl rfl) (fgt_n)))))))))))
                     | (rw [if_neg (by omega), if_pos (by omega)] at q9; exact v_fgt2 q9 (fgt_c (Or.inr rfl) (fgt_c (Or.inr rfl) (fgt_c (Or.inr rfl) (fgt_c (Or.inr rfl) (fgt_c (Or.inr rfl) (fgt_c (Or.inr rfl) (fgt_c (Or.inr rfl) (fgt_c (Or.inl rfl) (fgt_c (Or.inl rfl) (fgt_n)))))))))))
                     | (rw [if_neg (by omega), if_neg (by omega), if_pos (by omega)] at q9; exact v_fgt2 q9 (fgt_c (Or.inr rfl) (fgt_c (Or.inr rfl) (fgt_c (Or.inr rfl) (fgt_c (Or.inr rfl) (fgt_c (Or.inr rfl) (fgt_c (Or.inr rfl) (fgt_c (Or.inr rfl) (fgt_c (Or.inl rfl) (fgt_c (Or.inl rfl) (fgt_n)))))))))))
                     | (rw [if_neg (by omega), if_neg (by omega), if_neg (by omega)] at q9; exact v_fgt2 q9 (fgt_c (Or.inr rfl) (fgt_c (Or.inr rfl) (fgt_c (Or.inr rfl) (fgt_c (Or.inr rfl) (fgt_c (Or.inr rfl) (fgt_c (Or.inr rfl) (fgt_c (Or.inr rfl) (fgt_c (Or.inl rfl) (fgt_c (Or.inl rfl) (fgt_n))))))))))))
        · refine v_iload_n dX9_foremost_44 rfl ?_
          refine v_if_eq (tgt := 58) dX9_foremost_45 (by decide) (fun h45 => ?_) (fun h45 => ?_)
          · refine v_iload dX9_foremost_58 rfl ?_
            refine v_iload dX9_foremost_60 rfl ?_
            refine v_ic_ge (tgt := 69) dX9_foremost_62 (by decide) (fun h62 => ?_) (fun h62 => ?_)
            · refine v_iconst dX9_foremost_69 ?_
              refine v_ist8 dX9_foremost_70 rfl ?_
              refine v_iload dX9_foremost_72 rfl ?_
              refine v_if_eq (tgt := 84) dX9_foremost_74 (by decide) (fun h74 => ?_) (fun h74 => ?_)
              · refine v_iload dX9_foremost_84 rfl ?_
                refine v_iload dX9_foremost_86 rfl ?_
                refine v_ic_ne (tgt := 101) dX9_foremost_88 (by decide) (fun h88 => ?_) (fun h88 => ?_)
                · refine v_iload dX9_foremost_101 rfl ?_
                  refine v_ist4 dX9_foremost_103 rfl ?_
                  refine v_iload dX9_foremost_105 rfl ?_
                  refine v_if_eq (tgt := 115) dX9_foremost_107 (by decide) (fun h107 => ?_) (fun h107 => ?_)
                  · refine v_iload dX9_foremost_115 rfl ?_
                    refine v_ist5 dX9_foremost_117 rfl ?_
                    refine v_iinc6 dX9_foremost_119 rfl ?_
                    refine v_goto (tgt := 9) dX9_foremost_122 (by decide) ?_
                    first
                      | (exfalso; omega)
                      | (have q9 := ih (k + 1) (by omega) (by omega)
                         rw [ex] at q9
                         first
                           | (rw [if_pos (by omega)] at q9; exact v_fgt2 q9 (fgt_c (Or.inr rfl) (fgt_c (Or.inr rfl) (fgt_c (Or.inr rfl) (fgt_c (Or.inr rfl) (fgt_c (Or.inr rfl) (fgt_c (Or.inr rfl) (fgt_c (Or.inr rfl) (fgt_c (Or.inl rfl) (fgt_c (Or.inl rfl) (fgt_n)))))))))))
                           | (rw [if_neg (by omega), if_pos (by omega)] at q9; exact v_fgt2 q9 (fgt_c (Or.inr rfl) (fgt_c (Or.inr rfl) (fgt_c (Or.inr rfl) (fgt_c (Or.inr rfl) (fgt_c (Or.inr rfl) (fgt_c (Or.inr rfl) (fgt_c (Or.inr rfl) (fgt_c (Or.inl rfl) (fgt_c (Or.inl rfl) (fgt_n)))))))))))
                           | (rw [if_neg (by omega), if_neg (by omega), if_pos (by omega)] at q9; exact v_fgt2 q9 (fgt_c (Or.inr rfl) (fgt_c (Or.inr rfl) (fgt_c (Or.inr rfl) (fgt_c (Or.inr rfl) (fgt_c (Or.inr rfl) (fgt_c (Or.inr rfl) (fgt_c (Or.inr rfl) (fgt_c (Or.inl rfl) (fgt_c (Or.inl rfl) (fgt_n)))))))))))
                           | (rw [if_neg (by omega), if_neg (by omega), if_neg (by omega)] at q9; exact v_fgt2 q9 (fgt_c (Or.inr rfl) (fgt_c (Or.inr rfl) (fgt_c (Or.inr rfl) (fgt_c (Or.inr rfl) (fgt_c (Or.inr rfl) (fgt_c (Or.inr rfl) (fgt_c (Or.inr rfl) (fgt_c (Or.inl rfl) (fgt_c (Or.inl rfl) (fgt_n))))))))))))
                  · refine v_iload dX9_foremost_110 rfl ?_
                    refine v_goto (tgt := 117) dX9_foremost_112 (by decide) ?_
                    refine v_ist5 dX9_foremost_117 rfl ?_
                    refine v_iinc6 dX9_foremost_119 rfl ?_
                    refine v_goto (tgt := 9) dX9_foremost_122 (by decide) ?_
                    first
                      | (exfalso; omega)
                      | (have q9 := ih (k + 1) (by omega) (by omega)
                         rw [ex] at q9
                         first
                           | (rw [if_pos (by omega)] at q9; exact v_fgt2 q9 (fgt_c (Or.inr rfl) (fgt_c (Or.inr rfl) (fgt_c (Or.inr rfl) (fgt_c (Or.inr rfl) (fgt_c (Or.inr rfl) (fgt_c (Or.inr rfl) (fgt_c (Or.inr rfl) (fgt_c (Or.inl rfl) (fgt_c (Or.inl rfl) (fgt_n)))))))))))
                           | (rw [if_neg (by omega), if_pos (by omega)] at q9; exact v_fgt2 q9 (fgt_c (Or.inr rfl) (fgt_c (Or.inr rfl) (fgt_c (Or.inr rfl) (fgt_c (Or.inr rfl) (fgt_c (Or.inr rfl) (fgt_c (Or.inr rfl) (fgt_c (Or.inr rfl) (fgt_c (Or.inl rfl) (fgt_c (Or.inl rfl) (fgt_n)))))))))))
                           | (rw [if_neg (by omega), if_neg (by omega), if_pos (by omega)] at q9; exact v_fgt2 q9 (fgt_c (Or.inr rfl) (fgt_c (Or.inr rfl) (fgt_c (Or.inr rfl) (fgt_c (Or.inr rfl) (fgt_c (Or.inr rfl) (fgt_c (Or.inr rfl) (fgt_c (Or.inr rfl) (fgt_c (Or.inl rfl) (fgt_c (Or.inl rfl) (fgt_n)))))))))))
                           | (rw [if_neg (by omega), if_neg (by omega), if_neg (by omega)] at q9; exact v_fgt2 q9 (fgt_c (Or.inr rfl) (fgt_c (Or.inr rfl) (fgt_c (Or.inr rfl) (fgt_c (Or.inr rfl) (fgt_c (Or.inr rfl) (fgt_c (Or.inr rfl) (fgt_c (Or.inr rfl) (fgt_c (Or.inl rfl) (fgt_c (Or.inl rfl) (fgt_n))))))))))))
                · refine v_iload dX9_foremost_91 rfl ?_
                  refine v_iconst dX9_foremost_93 ?_
                  refine v_iload dX9_foremost_94 rfl ?_
                  refine v_ishl (z := ((2 ^ k : Nat) : Int)) dX9_foremost_96 (shl_b k hk8) ?_
                  refine v_ior (z := ((E.1 ||| 2 ^ k : Nat) : Int)) dX9_foremost_97 (or_b _ hEk.1 k hk8) ?_
                  refine v_goto (tgt := 103) dX9_foremost_98 (by decide) ?_
                  refine v_ist4 dX9_foremost_103 rfl ?_
                  refine v_iload dX9_foremost_105 rfl ?_
                  refine v_if_eq (tgt := 115) dX9_foremost_107 (by decide) (fun h107 => ?_) (fun h107 => ?_)
                  · refine v_iload dX9_foremost_115 rfl ?_
                    refine v_ist5 dX9_foremost_117 rfl ?_
                    refine v_iinc6 dX9_foremost_119 rfl ?_
                    refine v_goto (tgt := 9) dX9_foremost_122 (by decide) ?_
                    first
                      | (exfalso; omega)
                      | (have q9 := ih (k + 1) (by omega) (by omega)
                         rw [ex] at q9
                         first
                           | (rw [if_pos (by omega)] at q9; exact v_fgt2 q9 (fgt_c (Or.inr rfl) (fgt_c (Or.inr rfl) (fgt_c (Or.inr rfl) (fgt_c (Or.inr rfl) (fgt_c (Or.inr rfl) (fgt_c (Or.inr rfl) (fgt_c (Or.inr rfl) (fgt_c (Or.inl rfl) (fgt_c (Or.inl rfl) (fgt_n)))))))))))
                           | (rw [if_neg (by omega), if_pos (by omega)] at q9; exact v_fgt2 q9 (fgt_c (Or.inr rfl) (fgt_c (Or.inr rfl) (fgt_c (Or.inr rfl) (fgt_c (Or.inr rfl) (fgt_c (Or.inr rfl) (fgt_c (Or.inr rfl) (fgt_c (Or.inr rfl) (fgt_c (Or.inl rfl) (fgt_c (Or.inl rfl) (fgt_n)))))))))))
                           | (rw [if_neg (by omega), if_neg (by omega), if_pos (by omega)] at q9; exact v_fgt2 q9 (fgt_c (Or.inr rfl) (fgt_c (Or.inr rfl) (fgt_c (Or.inr rfl) (fgt_c (Or.inr rfl) (fgt_c (Or.inr rfl) (fgt_c (Or.inr rfl) (fgt_c (Or.inr rfl) (fgt_c (Or.inl rfl) (fgt_c (Or.inl rfl) (fgt_n)))))))))))
                           | (rw [if_neg (by omega), if_neg (by omega), if_neg (by omega)] at q9; exact v_fgt2 q9 (fgt_c (Or.inr rfl) (fgt_c (Or.inr rfl) (fgt_c (Or.inr rfl) (fgt_c (Or.inr rfl) (fgt_c (Or.inr rfl) (fgt_c (Or.inr rfl) (fgt_c (Or.inr rfl) (fgt_c (Or.inl rfl) (fgt_c (Or.inl rfl) (fgt_n))))))))))))
                  · refine v_iload dX9_foremost_110 rfl ?_
                    refine v_goto (tgt := 117) dX9_foremost_112 (by decide) ?_
                    refine v_ist5 dX9_foremost_117 rfl ?_
                    refine v_iinc6 dX9_foremost_119 rfl ?_
                    refine v_goto (tgt := 9) dX9_foremost_122 (by decide) ?_
                    first
                      | (exfalso; omega)
                      | (have q9 := ih (k + 1) (by omega) (by omega)
                         rw [ex] at q9
                         first
                           | (rw [if_pos (by omega)] at q9; exact v_fgt2 q9 (fgt_c (Or.inr rfl) (fgt_c (Or.inr rfl) (fgt_c (Or.inr rfl) (fgt_c (Or.inr rfl) (fgt_c (Or.inr rfl) (fgt_c (Or.inr rfl) (fgt_c (Or.inr rfl) (fgt_c (Or.inl rfl) (fgt_c (Or.inl rfl) (fgt_n)))))))))))
                           | (rw [if_neg (by omega), if_pos (by omega)] at q9; exact v_fgt2 q9 (fgt_c (Or.inr rfl) (fgt_c (Or.inr rfl) (fgt_c (Or.inr rfl) (fgt_c (Or.inr rfl) (fgt_c (Or.inr rfl) (fgt_c (Or.inr rfl) (fgt_c (Or.inr rfl) (fgt_c (Or.inl rfl) (fgt_c (Or.inl rfl) (fgt_n)))))))))))
                           | (rw [if_neg (by omega), if_neg (by omega), if_pos (by omega)] at q9; exact v_fgt2 q9 (fgt_c (Or.inr rfl) (fgt_c (Or.inr rfl) (fgt_c (Or.inr rfl) (fgt_c (Or.inr rfl) (fgt_c (Or.inr rfl) (fgt_c (Or.inr rfl) (fgt_c (Or.inr rfl) (fgt_c (Or.inl rfl) (fgt_c (Or.inl rfl) (fgt_n)))))))))))
                           | (rw [if_neg (by omega), if_neg (by omega), if_neg (by omega)] at q9; exact v_fgt2 q9 (fgt_c (Or.inr rfl) (fgt_c (Or.inr rfl) (fgt_c (Or.inr rfl) (fgt_c (Or.inr rfl) (fgt_c (Or.inr rfl) (fgt_c (Or.inr rfl) (fgt_c (Or.inr rfl) (fgt_c (Or.inl rfl) (fgt_c (Or.inl rfl) (fgt_n))))))))))))
              · refine v_iconst dX9_foremost_77 ?_
                refine v_iload dX9_foremost_78 rfl ?_
                refine v_ishl (z := ((2 ^ k : Nat) : Int)) dX9_foremost_80 (shl_b k hk8) ?_
                refine v_goto (tgt := 103) dX9_foremost_81 (by decide) ?_
                refine v_ist4 dX9_foremost_103 rfl ?_
                refine v_iload dX9_foremost_105 rfl ?_
                refine v_if_eq (tgt := 115) dX9_foremost_107 (by decide) (fun h107 => ?_) (fun h107 => ?_)
                · refine v_iload dX9_foremost_115 rfl ?_
                  refine v_ist5 dX9_foremost_117 rfl ?_
                  refine v_iinc6 dX9_foremost_119 rfl ?_
                  refine v_goto (tgt := 9) dX9_foremost_122 (by decide) ?_
                  first
                    | (exfalso; omega)
                    | (have q9 := ih (k + 1) (by omega) (by omega)
                       rw [ex] at q9
                       first
                         | (rw [if_pos (by omega)] at q9; exact v_fgt2 q9 (fgt_c (Or.inr rfl) (fgt_c (Or.inr rfl) (fgt_c (Or.inr rfl) (fgt_c (Or.inr rfl) (fgt_c (Or.inr rfl) (fgt_c (Or.inr rfl) (fgt_c (Or.inr rfl) (fgt_c (Or.inl rfl) (fgt_c (Or.inl rfl) (fgt_n)))))))))))
                         | (rw [if_neg (by omega), if_pos (by omega)] at q9; exact v_fgt2 q9 (fgt_c (Or.inr rfl) (fgt_c (Or.inr rfl) (fgt_c (Or.inr rfl) (fgt_c (Or.inr rfl) (fgt_c (Or.inr rfl) (fgt_c (Or.inr rfl) (fgt_c (Or.inr rfl) (fgt_c (Or.inl rfl) (fgt_c (Or.inl rfl) (fgt_n)))))))))))
                         | (rw [if_neg (by omega), if_neg (by omega), if_pos (by omega)] at q9; exact v_fgt2 q9 (fgt_c (Or.inr rfl) (fgt_c (Or.inr rfl) (fgt_c (Or.inr rfl) (fgt_c (Or.inr rfl) (fgt_c (Or.inr rfl) (fgt_c (Or.inr rfl) (fgt_c (Or.inr rfl) (fgt_c (Or.inl rfl) (fgt_c (Or.inl rfl) (fgt_n)))))))))))
                         | (rw [if_neg (by omega), if_neg (by omega), if_neg (by omega)] at q9; exact v_fgt2 q9 (fgt_c (Or.inr rfl) (fgt_c (Or.inr rfl) (fgt_c (Or.inr rfl) (fgt_c (Or.inr rfl) (fgt_c (Or.inr rfl) (fgt_c (Or.inr rfl) (fgt_c (Or.inr rfl) (fgt_c (Or.inl rfl) (fgt_c (Or.inl rfl) (fgt_n))))))))))))
                · refine v_iload dX9_foremost_110 rfl ?_
                  refine v_goto (tgt := 117) dX9_foremost_112 (by decide) ?_
                  refine v_ist5 dX9_foremost_117 rfl ?_
                  refine v_iinc6 dX9_foremost_119 rfl ?_
                  refine v_goto (tgt := 9) dX9_foremost_122 (by decide) ?_
                  first
                    | (exfalso; omega)
                    | (have q9 := ih (k + 1) (by omega) (by omega)
                       rw [ex] at q9
                       first
                         | (rw [if_pos (by omega)] at q9; exact v_fgt2 q9 (fgt_c (Or.inr rfl) (fgt_c (Or.inr rfl) (fgt_c (Or.inr rfl) (fgt_c (Or.inr rfl) (fgt_c (Or.inr rfl) (fgt_c (Or.inr rfl) (fgt_c (Or.inr rfl) (fgt_c (Or.inl rfl) (fgt_c (Or.inl rfl) (fgt_n)))))))))))
                         | (rw [if_neg (by omega), if_pos (by omega)] at q9; exact v_fgt2 q9 (fgt_c (Or.inr rfl) (fgt_c (Or.inr rfl) (fgt_c (Or.inr rfl) (fgt_c (Or.inr rfl) (fgt_c (Or.inr rfl) (fgt_c (Or.inr rfl) (fgt_c (Or.inr rfl) (fgt_c (Or.inl rfl) (fgt_c (Or.inl rfl) (fgt_n)))))))))))
                         | (rw [if_neg (by omega), if_neg (by omega), if_pos (by omega)] at q9; exact v_fgt2 q9 (fgt_c (Or.inr rfl) (fgt_c (Or.inr rfl) (fgt_c (Or.inr rfl) (fgt_c (Or.inr rfl) (fgt_c (Or.inr rfl) (fgt_c (Or.inr rfl) (fgt_c (Or.inr rfl) (fgt_c (Or.inl rfl) (fgt_c (Or.inl rfl) (fgt_n)))))))))))
                         | (rw [if_neg (by omega), if_neg (by omega), if_neg (by omega)] at q9; exact v_fgt2 q9 (fgt_c (Or.inr rfl) (fgt_c (Or.inr rfl) (fgt_c (Or.inr rfl) (fgt_c (Or.inr rfl) (fgt_c (Or.inr rfl) (fgt_c (Or.inr rfl) (fgt_c (Or.inr rfl) (fgt_c (Or.inl rfl) (fgt_c (Or.inl rfl) (fgt_n))))))))))))
            · refine v_iconst dX9_foremost_65 ?_
              refine v_goto (tgt := 70) dX9_foremost_66 (by decide) ?_
              refine v_ist8 dX9_foremost_70 rfl ?_
              refine v_iload dX9_foremost_72 rfl ?_
              refine v_if_eq (tgt := 84) dX9_foremost_74 (by decide) (fun h74 => ?_) (fun h74 => ?_)
              · refine v_iload dX9_foremost_84 rfl ?_
                refine v_iload dX9_foremost_86 rfl ?_
                refine v_ic_ne (tgt := 101) dX9_foremost_88 (by decide) (fun h88 => ?_) (fun h88 => ?_)
                · refine v_iload dX9_foremost_101 rfl ?_
                  refine v_ist4 dX9_foremost_103 rfl ?_
                  refine v_iload dX9_foremost_105 rfl ?_
                  refine v_if_eq (tgt := 115) dX9_foremost_107 (by decide) (fun h107 => ?_) (fun h107 => ?_)
                  · refine v_iload dX9_foremost_115 rfl ?_
                    refine v_ist5 dX9_foremost_117 rfl ?_
                    refine v_iinc6 dX9_foremost_119 rfl ?_
                    refine v_goto (tgt := 9) dX9_foremost_122 (by decide) ?_
                    first
                      | (exfalso; omega)
                      | (have q9 := ih (k + 1) (by omega) (by omega)
                         rw [ex] at q9
                         first
                           | (rw [if_pos (by omega)] at q9; exact v_fgt2 q9 (fgt_c (Or.inr rfl) (fgt_c (Or.inr rfl) (fgt_c (Or.inr rfl) (fgt_c (Or.inr rfl) (fgt_c (Or.inr rfl) (fgt_c (Or.inr rfl) (fgt_c (Or.inr rfl) (fgt_c (Or.inl rfl) (fgt_c (Or.inl rfl) (fgt_n)))))))))))
                           | (rw [if_neg (by omega), if_pos (by omega)] at q9; exact v_fgt2 q9 (fgt_c (Or.inr rfl) (fgt_c (Or.inr rfl) (fgt_c (Or.inr rfl) (fgt_c (Or.inr rfl) (fgt_c (Or.inr rfl) (fgt_c (Or.inr rfl) (fgt_c (Or.inr rfl) (fgt_c (Or.inl rfl) (fgt_c (Or.inl rfl) (fgt_n)))))))))))
                           | (rw [if_neg (by omega), if_neg (by omega), if_pos (by omega)] at q9; exact v_fgt2 q9 (fgt_c (Or.inr rfl) (fgt_c (Or.inr rfl) (fgt_c (Or.inr rfl) (fgt_c (Or.inr rfl) (fgt_c (Or.inr rfl) (fgt_c (Or.inr rfl) (fgt_c (Or.inr rfl) (fgt_c (Or.inl rfl) (fgt_c (Or.inl rfl) (fgt_n)))))))))))
                           | (rw [if_neg (by omega), if_neg (by omega), if_neg (by omega)] at q9; exact v_fgt2 q9 (fgt_c (Or.inr rfl) (fgt_c (Or.inr rfl) (fgt_c (Or.inr rfl) (fgt_c (Or.inr rfl) (fgt_c (Or.inr rfl) (fgt_c (Or.inr rfl) (fgt_c (Or.inr rfl) (fgt_c (Or.inl rfl) (fgt_c (Or.inl rfl) (fgt_n))))))))))))
                  · refine v_iload dX9_foremost_110 rfl ?_
                    refine v_goto (tgt := 117) dX9_foremost_112 (by decide) ?_
                    refine v_ist5 dX9_foremost_117 rfl ?_
                    refine v_iinc6 dX9_foremost_119 rfl ?_
                    refine v_goto (tgt := 9) dX9_foremost_122 (by decide) ?_
                    first
                      | (exfalso; omega)
                      | (have q9 := ih (k + 1) (by omega) (by omega)
                         rw [ex] at q9
                         first
                           | (rw [if_pos (by omega)] at q9; exact v_fgt2 q9 (fgt_c (Or.inr rfl) (fgt_c (Or.inr rfl) (fgt_c (Or.inr rfl) (fgt_c (Or.inr rfl) (fgt_c (Or.inr rfl) (fgt_c (Or.inr rfl) (fgt_c (Or.inr rfl) (fgt_c (Or.inl rfl) (fgt_c (Or.inl rfl) (fgt_n)))))))))))
                           | (rw [if_neg (by omega), if_pos (by omega)] at q9; exact v_fgt2 q9 (fgt_c (Or.inr rfl) (fgt_c (Or.inr rfl) (fgt_c (Or.inr rfl) (fgt_c (Or.inr rfl) (fgt_c (Or.inr rfl) (fgt_c (Or.inr rfl) (fgt_c (Or.inr rfl) (fgt_c (Or.inl rfl) (fgt_c (Or.inl rfl) (fgt_n)))))))))))
                           | (rw [if_neg (by omega), if_neg (by omega), if_pos (by omega)] at q9; exact v_fgt2 q9 (fgt_c (Or.inr rfl) (fgt_c (Or.inr rfl) (fgt_c (Or.inr rfl) (fgt_c (Or.inr rfl) (fgt_c (Or.inr rfl) (fgt_c (Or.inr rfl) (fgt_c (Or.inr rfl) (fgt_c (Or.inl rfl) (fgt_c (Or.inl rfl) (fgt_n)))))))))))
                           | (rw [if_neg (by omega), if_neg (by omega), if_neg (by omega)] at q9; exact v_fgt2 q9 (fgt_c (Or.inr rfl) (fgt_c (Or.inr rfl) (fgt_c (Or.inr rfl) (fgt_c (Or.inr rfl) (fgt_c (Or.inr rfl) (fgt_c (Or.inr rfl) (fgt_c (Or.inr rfl) (fgt_c (Or.inl rfl) (fgt_c (Or.inl rfl) (fgt_n))))))))))))
                · refine v_iload dX9_foremost_91 rfl ?_
                  refine v_iconst dX9_foremost_93 ?_
                  refine v_iload dX9_foremost_94 rfl ?_
                  refine v_ishl (z := ((2 ^ k : Nat) : Int)) dX9_foremost_96 (shl_b k hk8) ?_
                  refine v_ior (z := ((E.1 ||| 2 ^ k : Nat) : Int)) dX9_foremost_97 (or_b _ hEk.1 k hk8) ?_
                  refine v_goto (tgt := 103) dX9_foremost_98 (by decide) ?_
                  refine v_ist4 dX9_foremost_103 rfl ?_
                  refine v_iload dX9_foremost_105 rfl ?_
                  refine v_if_eq (tgt := 115) dX9_foremost_107 (by decide) (fun h107 => ?_) (fun h107 => ?_)
                  · refine v_iload dX9_foremost_115 rfl ?_
                    refine v_ist5 dX9_foremost_117 rfl ?_
                    refine v_iinc6 dX9_foremost_119 rfl ?_
                    refine v_goto (tgt := 9) dX9_foremost_122 (by decide) ?_
                    first
                      | (exfalso; omega)
                      | (have q9 := ih (k + 1) (by omega) (by omega)
                         rw [ex] at q9
                         first
                           | (rw [if_pos (by omega)] at q9; exact v_fgt2 q9 (fgt_c (Or.inr rfl) (fgt_c (Or.inr rfl) (fgt_c (Or.inr rfl) (fgt_c (Or.inr rfl) (fgt_c (Or.inr rfl) (fgt_c (Or.inr rfl) (fgt_c (Or.inr rfl) (fgt_c (Or.inl rfl) (fgt_c (Or.inl rfl) (fgt_n)))))))))))
                           | (rw [if_neg (by omega), if_pos (by omega)] at q9; exact v_fgt2 q9 (fgt_c (Or.inr rfl) (fgt_c (Or.inr rfl) (fgt_c (Or.inr rfl) (fgt_c (Or.inr rfl) (fgt_c (Or.inr rfl) (fgt_c (Or.inr rfl) (fgt_c (Or.inr rfl) (fgt_c (Or.inl rfl) (fgt_c (Or.inl rfl) (fgt_n)))))))))))
                           | (rw [if_neg (by omega), if_neg (by omega), if_pos (by omega)] at q9; exact v_fgt2 q9 (fgt_c (Or.inr rfl) (fgt_c (Or.inr rfl) (fgt_c (Or.inr rfl) (fgt_c (Or.inr rfl) (fgt_c (Or.inr rfl) (fgt_c (Or.inr rfl) (fgt_c (Or.inr rfl) (fgt_c (Or.inl rfl) (fgt_c (Or.inl rfl) (fgt_n)))))))))))
                           | (rw [if_neg (by omega), if_neg (by omega), if_neg (by omega)] at q9; exact v_fgt2 q9 (fgt_c (Or.inr rfl) (fgt_c (Or.inr rfl) (fgt_c (Or.inr rfl) (fgt_c (Or.inr rfl) (fgt_c (Or.inr rfl) (fgt_c (Or.inr rfl) (fgt_c (Or.inr rfl) (fgt_c (Or.inl rfl) (fgt_c (Or.inl rfl) (fgt_n))))))))))))
                  · refine v_iload dX9_foremost_110 rfl ?_
                    refine v_goto (tgt := 117) dX9_foremost_112 (by decide) ?_
                    refine v_ist5 dX9_foremost_117 rfl ?_
                    refine v_iinc6 dX9_foremost_119 rfl ?_
                    refine v_goto (tgt := 9) dX9_foremost_122 (by decide) ?_
                    first
                      | (exfalso; omega)
                      | (have q9 := ih (k + 1) (by omega) (by omega)
                         rw [ex] at q9
                         first
                           | (rw [if_pos (by omega)] at q9; exact v_fgt2 q9 (fgt_c (Or.inr rfl) (fgt_c (Or.inr rfl) (fgt_c (Or.inr rfl) (fgt_c (Or.inr rfl) (fgt_c (Or.inr rfl) (fgt_c (Or.inr rfl) (fgt_c (Or.inr rfl) (fgt_c (Or.inl rfl) (fgt_c (Or.inl rfl) (fgt_n)))))))))))
                           | (rw [if_neg (by omega), if_pos (by omega)] at q9; exact v_fgt2 q9 (fgt_c (Or.inr rfl) (fgt_c (Or.inr rfl) (fgt_c (Or.inr rfl) (fgt_c (Or.inr rfl) (fgt_c (Or.inr rfl) (fgt_c (Or.inr rfl) (fgt_c (Or.inr rfl) (fgt_c (Or.inl rfl) (fgt_c (Or.inl rfl) (fgt_n)))))))))))
                           | (rw [if_neg (by omega), if_neg (by omega), if_pos (by omega)] at q9; exact v_fgt2 q9 (fgt_c (Or.inr rfl) (fgt_c (Or.inr rfl) (fgt_c (Or.inr rfl) (fgt_c (Or.inr rfl) (fgt_c (Or.inr rfl) (fgt_c (Or.inr rfl) (fgt_c (Or.inr rfl) (fgt_c (Or.inl rfl) (fgt_c (Or.inl rfl) (fgt_n)))))))))))
                           | (rw [if_neg (by omega), if_neg (by omega), if_neg (by omega)] at q9; exact v_fgt2 q9 (fgt_c (Or.inr rfl) (fgt_c (Or.inr rfl) (fgt_c (Or.inr rfl) (fgt_c (Or.inr rfl) (fgt_c (Or.inr rfl) (fgt_c (Or.inr rfl) (fgt_c (Or.inr rfl) (fgt_c (Or.inl rfl) (fgt_c (Or.inl rfl) (fgt_n))))))))))))
              · refine v_iconst dX9_foremost_77 ?_
                refine v_iload dX9_foremost_78 rfl ?_
                refine v_ishl (z := ((2 ^ k : Nat) : Int)) dX9_foremost_80 (shl_b k hk8) ?_
                refine v_goto (tgt := 103) dX9_foremost_81 (by decide) ?_
                refine v_ist4 dX9_foremost_103 rfl ?_
                refine v_iload dX9_foremost_105 rfl ?_
                refine v_if_eq (tgt := 115) dX9_foremost_107 (by decide) (fun h107 => ?_) (fun h107 => ?_)
                · refine v_iload dX9_foremost_115 rfl ?_
                  refine v_ist5 dX9_foremost_117 rfl ?_
                  refine v_iinc6 dX9_foremost_119 rfl ?_
                  refine v_goto (tgt := 9) dX9_foremost_122 (by decide) ?_
                  first
                    | (exfalso; omega)
                    | (have q9 := ih (k + 1) (by omega) (by omega)
                       rw [ex] at q9
                       first
                         | (rw [if_pos (by omega)] at q9; exact v_fgt2 q9 (fgt_c (Or.inr rfl) (fgt_c (Or.inr rfl) (fgt_c (Or.inr rfl) (fgt_c (Or.inr rfl) (fgt_c (Or.inr rfl) (fgt_c (Or.inr rfl) (fgt_c (Or.inr rfl) (fgt_c (Or.inl rfl) (fgt_c (Or.inl rfl) (fgt_n)))))))))))
                         | (rw [if_neg (by omega), if_pos (by omega)] at q9; exact v_fgt2 q9 (fgt_c (Or.inr rfl) (fgt_c (Or.inr rfl) (fgt_c (Or.inr rfl) (fgt_c (Or.inr rfl) (fgt_c (Or.inr rfl) (fgt_c (Or.inr rfl) (fgt_c (Or.inr rfl) (fgt_c (Or.inl rfl) (fgt_c (Or.inl rfl) (fgt_n)))))))))))
                         | (rw [if_neg (by omega), if_neg (by omega), if_pos (by omega)] at q9; exact v_fgt2 q9 (fgt_c (Or.inr rfl) (fgt_c (Or.inr rfl) (fgt_c (Or.inr rfl) (fgt_c (Or.inr rfl) (fgt_c (Or.inr rfl) (fgt_c (Or.inr rfl) (fgt_c (Or.inr rfl) (fgt_c (Or.inl rfl) (fgt_c (Or.inl rfl) (fgt_n)))))))))))
                         | (rw [if_neg (by omega), if_neg (by omega), if_neg (by omega)] at q9; exact v_fgt2 q9 (fgt_c (Or.inr rfl) (fgt_c (Or.inr rfl) (fgt_c (Or.inr rfl) (fgt_c (Or.inr rfl) (fgt_c (Or.inr rfl) (fgt_c (Or.inr rfl) (fgt_c (Or.inr rfl) (fgt_c (Or.inl rfl) (fgt_c (Or.inl rfl) (fgt_n))))))))))))
                · refine v_iload dX9_foremost_110 rfl ?_
                  refine v_goto (tgt := 117) dX9_foremost_112 (by decide) ?_
                  refine v_ist5 dX9_foremost_117 rfl ?_
                  refine v_iinc6 dX9_foremost_119 rfl ?_
                  refine v_goto (tgt := 9) dX9_foremost_122 (by decide) ?_
                  first
                    | (exfalso; omega)
                    | (have q9 := ih (k + 1) (by omega) (by omega)
                       rw [ex] at q9
                       first
                         | (rw [if_pos (by omega)] at q9; exact v_fgt2 q9 (fgt_c (Or.inr rfl) (fgt_c (Or.inr rfl) (fgt_c (Or.inr rfl) (fgt_c (Or.inr rfl) (fgt_c (Or.inr rfl) (fgt_c (Or.inr rfl) (fgt_c (Or.inr rfl) (fgt_c (Or.inl rfl) (fgt_c (Or.inl rfl) (fgt_n)))))))))))
                         | (rw [if_neg (by omega), if_pos (by omega)] at q9; exact v_fgt2 q9 (fgt_c (Or.inr rfl) (fgt_c (Or.inr rfl) (fgt_c (Or.inr rfl) (fgt_c (Or.inr rfl) (fgt_c (Or.inr rfl) (fgt_c (Or.inr rfl) (fgt_c (Or.inr rfl) (fgt_c (Or.inl rfl) (fgt_c (Or.inl rfl) (fgt_n)))))))))))
                         | (rw [if_neg (by omega), if_neg (by omega), if_pos (by omega)] at q9; exact v_fgt2 q9 (fgt_c (Or.inr rfl) (fgt_c (Or.inr rfl) (fgt_c (Or.inr rfl) (fgt_c (Or.inr rfl) (fgt_c (Or.inr rfl) (fgt_c (Or.inr rfl) (fgt_c (Or.inr rfl) (fgt_c (Or.inl rfl) (fgt_c (Or.inl rfl) (fgt_n)))))))))))
                         | (rw [if_neg (by omega), if_neg (by omega), if_neg (by omega)] at q9; exact v_fgt2 q9 (fgt_c (Or.inr rfl) (fgt_c (Or.inr rfl) (fgt_c (Or.inr rfl) (fgt_c (Or.inr rfl) (fgt_c (Or.inr rfl) (fgt_c (Or.inr rfl) (fgt_c (Or.inr rfl) (fgt_c (Or.inl rfl) (fgt_c (Or.inl rfl) (fgt_n))))))))))))
          · refine v_iload dX9_foremost_48 rfl ?_
            refine v_iload dX9_foremost_50 rfl ?_
            refine v_ic_le (tgt := 69) dX9_foremost_52 (by decide) (fun h52 => ?_) (fun h52 => ?_)
            · refine v_iconst dX9_foremost_69 ?_
              refine v_ist8 dX9_foremost_70 rfl ?_
              refine v_iload dX9_foremost_72 rfl ?_
              refine v_if_eq (tgt := 84) dX9_foremost_74 (by decide) (fun h74 => ?_) (fun h74 => ?_)
              · refine v_iload dX9_foremost_84 rfl ?_
                refine v_iload dX9_foremost_86 rfl ?_
                refine v_ic_ne (tgt := 101) dX9_foremost_88 (by decide) (fun h88 => ?_) (fun h88 => ?_)
                · refine v_iload dX9_foremost_101 rfl ?_
                  refine v_ist4 dX9_foremost_103 rfl ?_
                  refine v_iload dX9_foremost_105 rfl ?_
                  refine v_if_eq (tgt := 115) dX9_foremost_107 (by decide) (fun h107 => ?_) (fun h107 => ?_)
                  · refine v_iload dX9_foremost_115 rfl ?_
                    refine v_ist5 dX9_foremost_117 rfl ?_
                    refine v_iinc6 dX9_foremost_119 rfl ?_
                    refine v_goto (tgt := 9) dX9_foremost_122 (by decide) ?_
                    first
                      | (exfalso; omega)
                      | (have q9 := ih (k + 1) (by omega) (by omega)
                         rw [ex] at q9
                         first
                           | (rw [if_pos (by omega)] at q9; exact v_fgt2 q9 (fgt_c (Or.inr rfl) (fgt_c (Or.inr rfl) (fgt_c (Or.inr rfl) (fgt_c (Or.inr rfl) (fgt_c (Or.inr rfl) (fgt_c (Or.inr rfl) (fgt_c (Or.inr rfl) (fgt_c (Or.inl rfl) (fgt_c (Or.inl rfl) (fgt_n)))))))))))
                           | (rw [if_neg (by omega), if_pos (by omega)] at q9; exact v_fgt2 q9 (fgt_c (Or.inr rfl) (fgt_c (Or.inr rfl) (fgt_c (Or.inr rfl) (fgt_c (Or.inr rfl) (fgt_c (Or.inr rfl) (fgt_c (Or.inr rfl) (fgt_c (Or.inr rfl) (fgt_c (Or.inl rfl) (fgt_c (Or.inl rfl) (fgt_n)))))))))))
                           | (rw [if_neg (by omega), if_neg (by omega), if_pos (by omega)] at q9; exact v_fgt2 q9 (fgt_c (Or.inr rfl) (fgt_c (Or.inr rfl) (fgt_c (Or.inr rfl) (fgt_c (Or.inr rfl) (fgt_c (Or.inr rfl) (fgt_c (Or.inr rfl) (fgt_c (Or.inr rfl) (fgt_c (Or.inl rfl) (fgt_c (Or.inl rfl) (fgt_n)))))))))))
                           | (rw [if_neg (by omega), if_neg (by omega), if_neg (by omega)] at q9; exact v_fgt2 q9 (fgt_c (Or.inr rfl) (fgt_c (Or.inr rfl) (fgt_c (Or.inr rfl) (fgt_c (Or.inr rfl) (fgt_c (Or.inr rfl) (fgt_c (Or.inr rfl) (fgt_c (Or.inr rfl) (fgt_c (Or.inl rfl) (fgt_c (Or.inl rfl) (fgt_n))))))))))))
                  · refine v_iload dX9_foremost_110 rfl ?_
                    refine v_goto (tgt := 117) dX9_foremost_112 (by decide) ?_
                    refine v_ist5 dX9_foremost_117 rfl ?_
                    refine v_iinc6 dX9_foremost_119 rfl ?_
                    refine v_goto (tgt := 9) dX9_foremost_122 (by decide) ?_
                    first
                      | (exfalso; omega)
                      | (have q9 := ih (k + 1) (by omega) (by omega)
                         rw [ex] at q9
                         first
                           | (rw [if_pos (by omega)] at q9; exact v_fgt2 q9 (fgt_c (Or.inr rfl) (fgt_c (Or.inr rfl) (fgt_c (Or.inr rfl) (fgt_c (Or.inr rfl) (fgt_c (Or.inr rfl) (fgt_c (Or.inr rfl) (fgt_c (Or.inr rfl) (fgt_c (Or.inl rfl) (fgt_c (Or.inl rfl) (fgt_n)))))))))))
                           | (rw [if_neg (by omega), if_pos (by omega)] at q9; exact v_fgt2 q9 (fgt_c (Or.inr rfl) (fgt_c (Or.inr rfl) (fgt_c (Or.inr rfl) (fgt_c (Or.inr rfl) (fgt_c (Or.inr rfl) (fgt_c (Or.inr rfl) (fgt_c (Or.inr rfl) (fgt_c (Or.inl rfl) (fgt_c (Or.inl rfl) (fgt_n)))))))))))
                           | (rw [if_neg (by omega), if_neg (by omega), if_pos (by omega)] at q9; exact v_fgt2 q9 (fgt_c (Or.inr rfl) (fgt_c (Or.inr rfl) (fgt_c (Or.inr rfl) (fgt_c (Or.inr rfl) (fgt_c (Or.inr rfl) (fgt_c (Or.inr rfl) (fgt_c (Or.inr rfl) (fgt_c (Or.inl rfl) (fgt_c (Or.inl rfl) (fgt_n)))))))))))
                           | (rw [if_neg (by omega), if_neg (by omega), if_neg (by omega)] at q9; exact v_fgt2 q9 (fgt_c (Or.inr rfl) (fgt_c (Or.inr rfl) (fgt_c (Or.inr rfl) (fgt_c (Or.inr rfl) (fgt_c (Or.inr rfl) (fgt_c (Or.inr rfl) (fgt_c (Or.inr rfl) (fgt_c (Or.inl rfl) (fgt_c (Or.inl rfl) (fgt_n))))))))))))
                · refine v_iload dX9_foremost_91 rfl ?_
                  refine v_iconst dX9_foremost_93 ?_
                  refine v_iload dX9_foremost_94 rfl ?_
                  refine v_ishl (z := ((2 ^ k : Nat) : Int)) dX9_foremost_96 (shl_b k hk8) ?_
                  refine v_ior (z := ((E.1 ||| 2 ^ k : Nat) : Int)) dX9_foremost_97 (or_b _ hEk.1 k hk8) ?_
                  refine v_goto (tgt := 103) dX9_foremost_98 (by decide) ?_
                  refine v_ist4 dX9_foremost_103 rfl ?_
                  refine v_iload dX9_foremost_105 rfl ?_
                  refine v_if_eq (tgt := 115) dX9_foremost_107 (by decide) (fun h107 => ?_) (fun h107 => ?_)
                  · refine v_iload dX9_foremost_115 rfl ?_
                    refine v_ist5 dX9_foremost_117 rfl ?_
                    refine v_iinc6 dX9_foremost_119 rfl ?_
                    refine v_goto (tgt := 9) dX9_foremost_122 (by decide) ?_
                    first
                      | (exfalso; omega)
                      | (have q9 := ih (k + 1) (by omega) (by omega)
                         rw [ex] at q9
                         first
                           | (rw [if_pos (by omega)] at q9; exact v_fgt2 q9 (fgt_c (Or.inr rfl) (fgt_c (Or.inr rfl) (fgt_c (Or.inr rfl) (fgt_c (Or.inr rfl) (fgt_c (Or.inr rfl) (fgt_c (Or.inr rfl) (fgt_c (Or.inr rfl) (fgt_c (Or.inl rfl) (fgt_c (Or.inl rfl) (fgt_n)))))))))))
                           | (rw [if_neg (by omega), if_pos (by omega)] at q9; exact v_fgt2 q9 (fgt_c (Or.inr rfl) (fgt_c (Or.inr rfl) (fgt_c (Or.inr rfl) (fgt_c (Or.inr rfl) (fgt_c (Or.inr rfl) (fgt_c (Or.inr rfl) (fgt_c (Or.inr rfl) (fgt_c (Or.inl rfl) (fgt_c (Or.inl rfl) (fgt_n)))))))))))
                           | (rw [if_neg (by omega), if_neg (by omega), if_pos (by omega)] at q9; exact v_fgt2 q9 (fgt_c (Or.inr rfl) (fgt_c (Or.inr rfl) (fgt_c (Or.inr rfl) (fgt_c (Or.inr rfl) (fgt_c (Or.inr rfl) (fgt_c (Or.inr rfl) (fgt_c (Or.inr rfl) (fgt_c (Or.inl rfl) (fgt_c (Or.inl rfl) (fgt_n)))))))))))
                           | (rw [if_neg (by omega), if_neg (by omega), if_neg (by omega)] at q9; exact v_fgt2 q9 (fgt_c (Or.inr rfl) (fgt_c (Or.inr rfl) (fgt_c (Or.inr rfl) (fgt_c (Or.inr rfl) (fgt_c (Or.inr rfl) (fgt_c (Or.inr rfl) (fgt_c (Or.inr rfl) (fgt_c (Or.inl rfl) (fgt_c (Or.inl rfl) (fgt_n))))))))))))
                  · refine v_iload dX9_foremost_110 rfl ?_
                    refine v_goto (tgt := 117) dX9_foremost_112 (by decide) ?_
                    refine v_ist5 dX9_foremost_117 rfl ?_
                    refine v_iinc6 dX9_foremost_119 rfl ?_
                    refine v_goto (tgt := 9) dX9_foremost_122 (by decide) ?_
                    first
                      | (exfalso; omega)
                      | (have q9 := ih (k + 1) (by omega) (by omega)
                         rw [ex] at q9
                         first
                           | (rw [if_pos (by omega)] at q9; exact v_fgt2 q9 (fgt_c (Or.inr rfl) (fgt_c (Or.inr rfl) (fgt_c (Or.inr rfl) (fgt_c (Or.inr rfl) (fgt_c (Or.inr rfl) (fgt_c (Or.inr rfl) (fgt_c (Or.inr rfl) (fgt_c (Or.inl rfl) (fgt_c (Or.inl rfl) (fgt_n)))))))))))
                           | (rw [if_neg (by omega), if_pos (by omega)] at q9; exact v_fgt2 q9 (fgt_c (Or.inr rfl) (fgt_c (Or.inr rfl) (fgt_c (Or.inr rfl) (fgt_c (Or.inr rfl) (fgt_c (Or.inr rfl) (fgt_c (Or.inr rfl) (fgt_c (Or.inr rfl) (fgt_c (Or.inl rfl) (fgt_c (Or.inl rfl) (fgt_n)))))))))))
                           | (rw [if_neg (by omega), if_neg (by omega), if_pos (by omega)] at q9; exact v_fgt2 q9 (fgt_c (Or.inr rfl) (fgt_c (Or.inr rfl) (fgt_c (Or.inr rfl) (fgt_c (Or.inr rfl) (fgt_c (Or.inr rfl) (fgt_c (Or.inr rfl) (fgt_c (Or.inr rfl) (fgt_c (Or.inl rfl) (fgt_c (Or.inl rfl) (fgt_n)))))))))))
                           | (rw [if_neg (by omega), if_neg (by omega), if_neg (by omega)] at q9; exact v_fgt2 q9 (fgt_c (Or.inr rfl) (fgt_c (Or.inr rfl) (fgt_c (Or.inr rfl) (fgt_c (Or.inr rfl) (fgt_c (Or.inr rfl) (fgt_c (Or.inr rfl) (fgt_c (Or.inr rfl) (fgt_c (Or.inl rfl) (fgt_c (Or.inl rfl) (fgt_n))))))))))))
              · refine v_iconst dX9_foremost_77 ?_
                refine v_iload dX9_foremost_78 rfl ?_
                refine v_ishl (z := ((2 ^ k : Nat) : Int)) dX9_foremost_80 (shl_b k hk8) ?_
                refine v_goto (tgt := 103) dX9_foremost_81 (by decide) ?_
                refine v_ist4 dX9_foremost_103 rfl ?_
                refine v_iload dX9_foremost_105 rfl ?_
                refine v_if_eq (tgt := 115) dX9_foremost_107 (by decide) (fun h107 => ?_) (fun h107 => ?_)
                · refine v_iload dX9_foremost_115 rfl ?_
                  refine v_ist5 dX9_foremost_117 rfl ?_
                  refine v_iinc6 dX9_foremost_119 rfl ?_
                  refine v_goto (tgt := 9) dX9_foremost_122 (by decide) ?_
                  first
                    | (exfalso; omega)
                    | (have q9 := ih (k + 1) (by omega) (by omega)
                       rw [ex] at q9
                       first
                         | (rw [if_pos (by omega)] at q9; exact v_fgt2 q9 (fgt_c (Or.inr rfl) (fgt_c (Or.inr rfl) (fgt_c (Or.inr rfl) (fgt_c (Or.inr rfl) (fgt_c (Or.inr rfl) (fgt_c (Or.inr rfl) (fgt_c (Or.inr rfl) (fgt_c (Or.inl rfl) (fgt_c (Or.inl rfl) (fgt_n)))))))))))
                         | (rw [if_neg (by omega), if_pos (by omega)] at q9; exact v_fgt2 q9 (fgt_c (Or.inr rfl) (fgt_c (Or.inr rfl) (fgt_c (Or.inr rfl) (fgt_c (Or.inr rfl) (fgt_c (Or.inr rfl) (fgt_c (Or.inr rfl) (fgt_c (Or.inr rfl) (fgt_c (Or.inl rfl) (fgt_c (Or.inl rfl) (fgt_n)))))))))))
                         | (rw [if_neg (by omega), if_neg (by omega), if_pos (by omega)] at q9; exact v_fgt2 q9 (fgt_c (Or.inr rfl) (fgt_c (Or.inr rfl) (fgt_c (Or.inr rfl) (fgt_c (Or.inr rfl) (fgt_c (Or.inr rfl) (fgt_c (Or.inr rfl) (fgt_c (Or.inr rfl) (fgt_c (Or.inl rfl) (fgt_c (Or.inl rfl) (fgt_n)))))))))))
                         | (rw [if_neg (by omega), if_neg (by omega), if_neg (by omega)] at q9; exact v_fgt2 q9 (fgt_c (Or.inr rfl) (fgt_c (Or.inr rfl) (fgt_c (Or.inr rfl) (fgt_c (Or.inr rfl) (fgt_c (Or.inr rfl) (fgt_c (Or.inr rfl) (fgt_c (Or.inr rfl) (fgt_c (Or.inl rfl) (fgt_c (Or.inl rfl) (fgt_n))))))))))))
                · refine v_iload dX9_foremost_110 rfl ?_
                  refine v_goto (tgt := 117) dX9_foremost_112 (by decide) ?_
                  refine v_ist5 dX9_foremost_117 rfl ?_
                  refine v_iinc6 dX9_foremost_119 rfl ?_
                  refine v_goto (tgt := 9) dX9_foremost_122 (by decide) ?_
                  first
                    | (exfalso; omega)
                    | (have q9 := ih (k + 1) (by omega) (by omega)
                       rw [ex] at q9
                       first
                         | (rw [if_pos (by omega)] at q9; exact v_fgt2 q9 (fgt_c (Or.inr rfl) (fgt_c (Or.inr rfl) (fgt_c (Or.inr rfl) (fgt_c (Or.inr rfl) (fgt_c (Or.inr rfl) (fgt_c (Or.inr rfl) (fgt_c (Or.inr rfl) (fgt_c (Or.inl rfl) (fgt_c (Or.inl rfl) (fgt_n)))))))))))
                         | (rw [if_neg (by omega), if_pos (by omega)] at q9; exact v_fgt2 q9 (fgt_c (Or.inr rfl) (fgt_c (Or.inr rfl) (fgt_c (Or.inr rfl) (fgt_c (Or.inr rfl) (fgt_c (Or.inr rfl) (fgt_c (Or.inr rfl) (fgt_c (Or.inr rfl) (fgt_c (Or.inl rfl) (fgt_c (Or.inl rfl) (fgt_n)))))))))))
                         | (rw [if_neg (by omega), if_neg (by omega), if_pos (by omega)] at q9; exact v_fgt2 q9 (fgt_c (Or.inr rfl) (fgt_c (Or.inr rfl) (fgt_c (Or.inr rfl) (fgt_c (Or.inr rfl) (fgt_c (Or.inr rfl) (fgt_c (Or.inr rfl) (fgt_c (Or.inr rfl) (fgt_c (Or.inl rfl) (fgt_c (Or.inl rfl) (fgt_n)))))))))))
                         | (rw [if_neg (by omega), if_neg (by omega), if_neg (by omega)] at q9; exact v_fgt2 q9 (fgt_c (Or.inr rfl) (fgt_c (Or.inr rfl) (fgt_c (Or.inr rfl) (fgt_c (Or.inr rfl) (fgt_c (Or.inr rfl) (fgt_c (Or.inr rfl) (fgt_c (Or.inr rfl) (fgt_c (Or.inl rfl) (fgt_c (Or.inl rfl) (fgt_n))))))))))))
            · refine v_goto (tgt := 65) dX9_foremost_55 (by decide) ?_
              refine v_iconst dX9_foremost_65 ?_
              refine v_goto (tgt := 70) dX9_foremost_66 (by decide) ?_
              refine v_ist8 dX9_foremost_70 rfl ?_
              refine v_iload dX9_foremost_72 rfl ?_
              refine v_if_eq (tgt := 84) dX9_foremost_74 (by decide) (fun h74 => ?_) (fun h74 => ?_)
              · refine v_iload dX9_foremost_84 rfl ?_
                refine v_iload dX9_foremost_86 rfl ?_
                refine v_ic_ne (tgt := 101) dX9_foremost_88 (by decide) (fun h88 => ?_) (fun h88 => ?_)
                · refine v_iload dX9_foremost_101 rfl ?_
                  refine v_ist4 dX9_foremost_103 rfl ?_
                  refine v_iload dX9_foremost_105 rfl ?_
                  refine v_if_eq (tgt := 115) dX9_foremost_107 (by decide) (fun h107 => ?_) (fun h107 => ?_)
                  · refine v_iload dX9_foremost_115 rfl ?_
                    refine v_ist5 dX9_foremost_117 rfl ?_
                    refine v_iinc6 dX9_foremost_119 rfl ?_
                    refine v_goto (tgt := 9) dX9_foremost_122 (by decide) ?_
                    first
                      | (exfalso; omega)
                      | (have q9 := ih (k + 1) (by omega) (by omega)
                         rw [ex] at q9
                         first
                           | (rw [if_pos (by omega)] at q9; exact v_fgt2 q9 (fgt_c (Or.inr rfl) (fgt_c (Or.inr rfl) (fgt_c (Or.inr rfl) (fgt_c (Or.inr rfl) (fgt_c (Or.inr rfl) (fgt_c (Or.inr rfl) (fgt_c (Or.inr rfl) (fgt_c (Or.inl rfl) (fgt_c (Or.inl rfl) (fgt_n)))))))))))
                           | (rw [if_neg (by omega), if_pos (by omega)] at q9; exact v_fgt2 q9 (fgt_c (Or.inr rfl) (fgt_c (Or.inr rfl) (fgt_c (Or.inr rfl) (fgt_c (Or.inr rfl) (fgt_c (Or.inr rfl) (fgt_c (Or.inr rfl) (fgt_c (Or.inr rfl) (fgt_c (Or.inl rfl) (fgt_c (Or.inl rfl) (fgt_n)))))))))))
                           | (rw [if_neg (by omega), if_neg (by omega), if_pos (by omega)] at q9; exact v_fgt2 q9 (fgt_c (Or.inr rfl) (fgt_c (Or.inr rfl) (fgt_c (Or.inr rfl) (fgt_c (Or.inr rfl) (fgt_c (Or.inr rfl) (fgt_c (Or.inr rfl) (fgt_c (Or.inr rfl) (fgt_c (Or.inl rfl) (fgt_c (Or.inl rfl) (fgt_n)))))))))))
                           | (rw [if_neg (by omega), if_neg (by omega), if_neg (by omega)] at q9; exact v_fgt2 q9 (fgt_c (Or.inr rfl) (fgt_c (Or.inr rfl) (fgt_c (Or.inr rfl) (fgt_c (Or.inr rfl) (fgt_c (Or.inr rfl) (fgt_c (Or.inr rfl) (fgt_c (Or.inr rfl) (fgt_c (Or.inl rfl) (fgt_c (Or.inl rfl) (fgt_n))))))))))))
                  · refine v_iload dX9_foremost_110 rfl ?_
                    refine v_goto (tgt := 117) dX9_foremost_112 (by decide) ?_
                    refine v_ist5 dX9_foremost_117 rfl ?_
                    refine v_iinc6 dX9_foremost_119 rfl ?_
                    refine v_goto (tgt := 9) dX9_foremost_122 (by decide) ?_
                    first
                      | (exfalso; omega)
                      | (have q9 := ih (k + 1) (by omega) (by omega)
                         rw [ex] at q9
                         first
                           | (rw [if_pos (by omega)] at q9; exact v_fgt2 q9 (fgt_c (Or.inr rfl) (fgt_c (Or.inr rfl) (fgt_c (Or.inr rfl) (fgt_c (Or.inr rfl) (fgt_c (Or.inr rfl) (fgt_c (Or.inr rfl) (fgt_c (Or.inr rfl) (fgt_c (Or.inl rfl) (fgt_c (Or.inl rfl) (fgt_n)))))))))))
                           | (rw [if_neg (by omega), if_pos (by omega)] at q9; exact v_fgt2 q9 (fgt_c (Or.inr rfl) (fgt_c (Or.inr rfl) (fgt_c (Or.inr rfl) (fgt_c (Or.inr rfl) (fgt_c (Or.inr rfl) (fgt_c (Or.inr rfl) (fgt_c (Or.inr rfl) (fgt_c (Or.inl rfl) (fgt_c (Or.inl rfl) (fgt_n)))))))))))
                           | (rw [if_neg (by omega), if_neg (by omega), if_pos (by omega)] at q9; exact v_fgt2 q9 (fgt_c (Or.inr rfl) (fgt_c (Or.inr rfl) (fgt_c (Or.inr rfl) (fgt_c (Or.inr rfl) (fgt_c (Or.inr rfl) (fgt_c (Or.inr rfl) (fgt_c (Or.inr rfl) (fgt_c (Or.inl rfl) (fgt_c (Or.inl rfl) (fgt_n)))))))))))
                           | (rw [if_neg (by omega), if_neg (by omega), if_neg (by omega)] at q9; exact v_fgt2 q9 (fgt_c (Or.inr rfl) (fgt_c (Or.inr rfl) (fgt_c (Or.inr rfl) (fgt_c (Or.inr rfl) (fgt_c (Or.inr rfl) (fgt_c (Or.inr rfl) (fgt_c (Or.inr rfl) (fgt_c (Or.inl rfl) (fgt_c (Or.inl rfl) (fgt_n))))))))))))
                · refine v_iload dX9_foremost_91 rfl ?_
                  refine v_iconst dX9_foremost_93 ?_
                  refine v_iload dX9_foremost_94 rfl ?_
                  refine v_ishl (z := ((2 ^ k : Nat) : Int)) dX9_foremost_96 (shl_b k hk8) ?_
                  refine v_ior (z := ((E.1 ||| 2 ^ k : Nat) : Int)) dX9_foremost_97 (or_b _ hEk.1 k hk8) ?_
                  refine v_goto (tgt := 103) dX9_foremost_98 (by decide) ?_
                  refine v_ist4 dX9_foremost_103 rfl ?_
                  refine v_iload dX9_foremost_105 rfl ?_
                  refine v_if_eq (tgt := 115) dX9_foremost_107 (by decide) (fun h107 => ?_) (fun h107 => ?_)
                  · refine v_iload dX9_foremost_115 rfl ?_
                    refine v_ist5 dX9_foremost_117 rfl ?_
                    refine v_iinc6 dX9_foremost_119 rfl ?_
                    refine v_goto (tgt := 9) dX9_foremost_122 (by decide) ?_
                    first
                      | (exfalso; omega)
                      | (have q9 := ih (k + 1) (by omega) (by omega)
                         rw [ex] at q9
                         first
                           | (rw [if_pos (by omega)] at q9; exact v_fgt2 q9 (fgt_c (Or.inr rfl) (fgt_c (Or.inr rfl) (fgt_c (Or.inr rfl) (fgt_c (Or.inr rfl) (fgt_c (Or.inr rfl) (fgt_c (Or.inr rfl) (fgt_c (Or.inr rfl) (fgt_c (Or.inl rfl) (fgt_c (Or.inl rfl) (fgt_n)))))))))))
                           | (rw [if_neg (by omega), if_pos (by omega)] at q9; exact v_fgt2 q9 (fgt_c (Or.inr rfl) (fgt_c (Or.inr rfl) (fgt_c (Or.inr rfl) (fgt_c (Or.inr rfl) (fgt_c (Or.inr rfl) (fgt_c (Or.inr rfl) (fgt_c (Or.inr rfl) (fgt_c (Or.inl rfl) (fgt_c (Or.inl rfl) (fgt_n)))))))))))
                           | (rw [if_neg (by omega), if_neg (by omega), if_pos (by omega)] at q9; exact v_fgt2 q9 (fgt_c (Or.inr rfl) (fgt_c (Or.inr rfl) (fgt_c (Or.inr rfl) (fgt_c (Or.inr rfl) (fgt_c (Or.inr rfl) (fgt_c (Or.inr rfl) (fgt_c (Or.inr rfl) (fgt_c (Or.inl rfl) (fgt_c (Or.inl rfl) (fgt_n)))))))))))
                           | (rw [if_neg (by omega), if_neg (by omega), if_neg (by omega)] at q9; exact v_fgt2 q9 (fgt_c (Or.inr rfl) (fgt_c (Or.inr rfl) (fgt_c (Or.inr rfl) (fgt_c (Or.inr rfl) (fgt_c (Or.inr rfl) (fgt_c (Or.inr rfl) (fgt_c (Or.inr rfl) (fgt_c (Or.inl rfl) (fgt_c (Or.inl rfl) (fgt_n))))))))))))
                  · refine v_iload dX9_foremost_110 rfl ?_
                    refine v_goto (tgt := 117) dX9_foremost_112 (by decide) ?_
                    refine v_ist5 dX9_foremost_117 rfl ?_
                    refine v_iinc6 dX9_foremost_119 rfl ?_
                    refine v_goto (tgt := 9) dX9_foremost_122 (by decide) ?_
                    first
                      | (exfalso; omega)
                      | (have q9 := ih (k + 1) (by omega) (by omega)
                         rw [ex] at q9
                         first
                           | (rw [if_pos (by omega)] at q9; exact v_fgt2 q9 (fgt_c (Or.inr rfl) (fgt_c (Or.inr rfl) (fgt_c (Or.inr rfl) (fgt_c (Or.inr rfl) (fgt_c (Or.inr rfl) (fgt_c (Or.inr rfl) (fgt_c (Or.inr rfl) (fgt_c (Or.inl rfl) (fgt_c (Or.inl rfl) (fgt_n)))))))))))
                           | (rw [if_neg (by omega), if_pos (by omega)] at q9; exact v_fgt2 q9 (fgt_c (Or.inr rfl) (fgt_c (Or.inr rfl) (fgt_c (Or.inr rfl) (fgt_c (Or.inr rfl) (fgt_c (Or.inr rfl) (fgt_c (Or.inr rfl) (fgt_c (Or.inr rfl) (fgt_c (Or.inl rfl) (fgt_c (Or.inl rfl) (fgt_n)))))))))))
                           | (rw [if_neg (by omega), if_neg (by omega), if_pos (by omega)] at q9; exact v_fgt2 q9 (fgt_c (Or.inr rfl) (fgt_c (Or.inr rfl) (fgt_c (Or.inr rfl) (fgt_c (Or.inr rfl) (fgt_c (Or.inr rfl) (fgt_c (Or.inr rfl) (fgt_c (Or.inr rfl) (fgt_c (Or.inl rfl) (fgt_c (Or.inl rfl) (fgt_n)))))))))))
                           | (rw [if_neg (by omega), if_neg (by omega), if_neg (by omega)] at q9; exact v_fgt2 q9 (fgt_c (Or.inr rfl) (fgt_c (Or.inr rfl) (fgt_c (Or.inr rfl) (fgt_c (Or.inr rfl) (fgt_c (Or.inr rfl) (fgt_c (Or.inr rfl) (fgt_c (Or.inr rfl) (fgt_c (Or.inl rfl) (fgt_c (Or.inl rfl) (fgt_n))))))))))))
              · refine v_iconst dX9_foremost_77 ?_
                refine v_iload dX9_foremost_78 rfl ?_
                refine v_ishl (z := ((2 ^ k : Nat) : Int)) dX9_foremost_80 (shl_b k hk8) ?_
                refine v_goto (tgt := 103) dX9_foremost_81 (by decide) ?_
                refine v_ist4 dX9_foremost_103 rfl ?_
                refine v_iload dX9_foremost_105 rfl ?_
                refine v_if_eq (tgt := 115) dX9_foremost_107 (by decide) (fun h107 => ?_) (fun h107 => ?_)
                · refine v_iload dX9_foremost_115 rfl ?_
                  refine v_ist5 dX9_foremost_117 rfl ?_
                  refine v_iinc6 dX9_foremost_119 rfl ?_
                  refine v_goto (tgt := 9) dX9_foremost_122 (by decide) ?_
                  first
                    | (exfalso; omega)
                    | (have q9 := ih (k + 1) (by omega) (by omega)
                       rw [ex] at q9
                       first
                         | (rw [if_pos (by omega)] at q9; exact v_fgt2 q9 (fgt_c (Or.inr rfl) (fgt_c (Or.inr rfl) (fgt_c (Or.inr rfl) (fgt_c (Or.inr rfl) (fgt_c (Or.inr rfl) (fgt_c (Or.inr rfl) (fgt_c (Or.inr rfl) (fgt_c (Or.inl rfl) (fgt_c (Or.inl rfl) (fgt_n)))))))))))
                         | (rw [if_neg (by omega), if_pos (by omega)] at q9; exact v_fgt2 q9 (fgt_c (Or.inr rfl) (fgt_c (Or.inr rfl) (fgt_c (Or.inr rfl) (fgt_c (Or.inr rfl) (fgt_c (Or.inr rfl) (fgt_c (Or.inr rfl) (fgt_c (Or.inr rfl) (fgt_c (Or.inl rfl) (fgt_c (Or.inl rfl) (fgt_n)))))))))))
                         | (rw [if_neg (by omega), if_neg (by omega), if_pos (by omega)] at q9; exact v_fgt2 q9 (fgt_c (Or.inr rfl) (fgt_c (Or.inr rfl) (fgt_c (Or.inr rfl) (fgt_c (Or.inr rfl) (fgt_c (Or.inr rfl) (fgt_c (Or.inr rfl) (fgt_c (Or.inr rfl) (fgt_c (Or.inl rfl) (fgt_c (Or.inl rfl) (fgt_n)))))))))))
                         | (rw [if_neg (by omega), if_neg (by omega), if_neg (by omega)] at q9; exact v_fgt2 q9 (fgt_c (Or.inr rfl) (fgt_c (Or.inr rfl) (fgt_c (Or.inr rfl) (fgt_c (Or.inr rfl) (fgt_c (Or.inr rfl) (fgt_c (Or.inr rfl) (fgt_c (Or.inr rfl) (fgt_c (Or.inl rfl) (fgt_c (Or.inl rfl) (fgt_n))))))))))))
                · refine v_iload dX9_foremost_110 rfl ?_
                  refine v_goto (tgt := 117) dX9_foremost_112 (by decide) ?_
                  refine v_ist5 dX9_foremost_117 rfl ?_
                  refine v_iinc6 dX9_foremost_119 rfl ?_
                  refine v_goto (tgt := 9) dX9_foremost_122 (by decide) ?_
                  first
                    | (exfalso; omega)
                    | (have q9 := ih (k + 1) (by omega) (by omega)
                       rw [ex] at q9
                       first
                         | (rw [if_pos (by omega)] at q9; exact v_fgt2 q9 (fgt_c (Or.inr rfl) (fgt_c (Or.inr rfl) (fgt_c (Or.inr rfl) (fgt_c (Or.inr rfl) (fgt_c (Or.inr rfl) (fgt_c (Or.inr rfl) (fgt_c (Or.inr rfl) (fgt_c (Or.inl rfl) (fgt_c (Or.inl rfl) (fgt_n)))))))))))
                         | (rw [if_neg (by omega), if_pos (by omega)] at q9; exact v_fgt2 q9 (fgt_c (Or.inr rfl) (fgt_c (Or.inr rfl) (fgt_c (Or.inr rfl) (fgt_c (Or.inr rfl) (fgt_c (Or.inr rfl) (fgt_c (Or.inr rfl) (fgt_c (Or.inr rfl) (fgt_c (Or.inl rfl) (fgt_c (Or.inl rfl) (fgt_n)))))))))))
                         | (rw [if_neg (by omega), if_neg (by omega), if_pos (by omega)] at q9; exact v_fgt2 q9 (fgt_c (Or.inr rfl) (fgt_c (Or.inr rfl) (fgt_c (Or.inr rfl) (fgt_c (Or.inr rfl) (fgt_c (Or.inr rfl) (fgt_c (Or.inr rfl) (fgt_c (Or.inr rfl) (fgt_c (Or.inl rfl) (fgt_c (Or.inl rfl) (fgt_n)))))))))))
                         | (rw [if_neg (by omega), if_neg (by omega), if_neg (by omega)] at q9; exact v_fgt2 q9 (fgt_c (Or.inr rfl) (fgt_c (Or.inr rfl) (fgt_c (Or.inr rfl) (fgt_c (Or.inr rfl) (fgt_c (Or.inr rfl) (fgt_c (Or.inr rfl) (fgt_c (Or.inr rfl) (fgt_c (Or.inl rfl) (fgt_c (Or.inl rfl) (fgt_n))))))))))))
  refine v_startE hfl rfl (by decide) (Nat.le_of_ble_eq_true rfl) (ls := [some (.ref 508), some (.int (ii (s : Int))), some (.int (ii (r : Int))), some (.int (ii m)), none, none, none, none, none]) rfl ?_
  refine v_iconst dX9_foremost_0 ?_
  refine v_ist4 dX9_foremost_1 rfl ?_
  refine v_iconst dX9_foremost_3 ?_
  refine v_ist5 dX9_foremost_4 rfl ?_
  refine v_iconst dX9_foremost_6 ?_
  refine v_ist6 dX9_foremost_7 rfl ?_
  exact v_fgt2 (L 0 (Nat.zero_le _)) (fgt_c (Or.inr rfl) (fgt_c (Or.inr rfl) (fgt_c (Or.inr rfl) (fgt_c (Or.inr rfl) (fgt_c (Or.inr rfl) (fgt_c (Or.inr rfl) (fgt_c (Or.inr rfl) (fgt_c (Or.inl rfl) (fgt_c (Or.inl rfl) (fgt_n))))))))))

def lkF (f : Nat → Int) (s : Nat) (m : Int) : Nat → Int
  | 0 => -1
  | k + 1 => if btI s (f k).toNat = 1 ∧ (lkF f s m k < 0 ∨ m = 0) then f k else lkF f s m k
def lkQ (I : II) (r s : Nat) (m : Int) (i : Nat) : Nat × Int × Int := chT (mVt I) (I 509 0).toNat (I 509 5) r m s i
def lkI (I : II) (b z : Int) : II := up (up I 508 41 b) 508 42 z
def lkM (I : II) (r s : Nat) (m : Int) : II := lkI I (lkQ I r s m r).2.2 (if pop8 (lkQ I r s m r).1 ≤ 1 then 0 else 1)
def lkV (I : II) (r s : Nat) (m : Int) : Int := lkF (fun k => I 509 (7 + k)) (lkQ I r s m r).1 m (I 509 0).toNat
theorem up_c41 {I : II} {b z b2 : Int} : up (up (up I 508 41 b) 508 42 z) 508 41 b2 = up (up I 508 41 b2) 508 42 z := by
  funext x j
  by_cases hx : x = 508
  · subst hx
    simp only [up_at]
    by_cases h3 : j = 42
    · simp [h3]
    · by_cases h2 : j = 41 <;> simp [h2, h3]
  · simp only [up_ne hx]
theorem lkI_ne {I : II} {b z : Int} {x : Nat} (h : x ≠ 508) : lkI I b z x = I x := (up_ne h).trans (up_ne h)
theorem lkI_f {I : II} {b z : Int} {k : Nat} (h1 : k ≠ 41) (h2 : k ≠ 42) : lkI I b z 508 k = I 508 k := by
  unfold lkI
  rw [up_nk h2, up_nk h1]
theorem WfM_of {I J : II} (h : WfM I) (he : J 509 = I 509) : WfM J := by
  unfold WfM mSz mLn mRk at *
  rw [he]
  exact h
theorem extF_r {f h : Nat → Int} (e : ∀ c, f c = h c) (s : Nat) (m : Int) (n : Nat) : extF f s m n = extF h s m n := by
  have : f = h := funext e
  rw [this]
theorem lkF_rng {f : Nat → Int} {s : Nat} {m : Int} (hf : ∀ k, k < 8 → 0 ≤ f k ∧ f k < 8) : ∀ n, n ≤ 8 → -1 ≤ lkF f s m n ∧ lkF f s m n < 8
  | 0, _ => by
    show -1 ≤ (-1 : Int) ∧ (-1 : Int) < 8
    decide
  | n + 1, h => by
    have ih := lkF_rng (s := s) (m := m) hf n (by omega)
    have := hf n (by omega)
    unfold lkF
    split <;> omega
theorem lkT_rng {I : II} {r s : Nat} {m : Int} (hr9 : r < 9) (i : Nat) (hi : i ≤ r) : -1 ≤ (lkQ I r s m i).2.2 ∧ (lkQ I r s m i).2.2 < 9 := (chT_rng hr9 i hi).2

set_option maxRecDepth 100000 in
set_option maxHeartbeats 4000000 in
theorem k_lookB {l : Launch} {g : GV} {S : SS} {I : II} {X : XX} {s q1 n : Nat} {m b t : Int} {x5 x6 x7 : Option Value} (hfl : l.stackTraces = false) (hM : isMod S) (hW : WfM I) (hn : I 509 0 = (n : Int)) (hm : m = 0 ∨ m = 1) (hq1 : q1 < 256) : V l g mX9_look 2 (Zm g (QE (some (.int (ii (lkF (fun k => I 509 (7 + k)) q1 m n)))) S (lkI I b (if pop8 q1 ≤ 1 then 0 else 1)) X)) 0 0 115 [some (.ref 508), some (.int (ii (s : Int))), some (.int (ii m)), some (.int (ii (q1 : Int))), some (.int (ii t)), x5, x6, x7] [] S (lkI I b 0) X := by
  obtain ⟨m0, ⟨p509, q509⟩, ⟨p510, q510⟩, ⟨p511, q511⟩, ⟨p512, q512⟩, ⟨p513, q513⟩, ⟨p514, q514⟩, ⟨p515, q515⟩, ⟨p516, q516⟩, ⟨p517, q517⟩, ⟨p518, q518⟩, ⟨p519, q519⟩, ⟨p520, q520⟩, ⟨p521, q521⟩, ⟨p522, q522⟩, ⟨p523, q523⟩, ⟨p524, q524⟩, ⟨p525, q525⟩, ⟨p526, q526⟩, ⟨p527, q527⟩, ⟨p528, q528⟩, ⟨p529, q529⟩, ⟨p530, q530⟩, ⟨p531, q531⟩, ⟨p532, q532⟩, ⟨p533, q533⟩, ⟨p534, q534⟩, ⟨p535, q535⟩, ⟨p536, q536⟩, ⟨p537, q537⟩, ⟨p538, q538⟩, ⟨p539, q539⟩, ⟨p540, q540⟩⟩ := id hM
  obtain ⟨w0, w1, w2, w3, w4, w5, w6, w7, w8, w9, w10⟩ := id hW
  have fr : ∀ z : Int, up (lkI I b 0) 508 42 z = lkI I b z := fun z => up_up
  have on : onF q1 = if pop8 q1 ≤ 1 then 1 else 0 := rfl
  have L : ∀ k : Nat, k ≤ n → ∀ z : Int, V l g mX9_look 2 (Zm g (QE (some (.int (ii (lkF (fun k => I 509 (7 + k)) q1 m n)))) S (lkI I b z) X)) 0 0 137 [some (.ref 508), some (.int (ii (s : Int))), some (.int (ii m)), some (.int (ii (q1 : Int))), some (.int (ii t)), some (.int (ii (lkF (fun k => I 509 (7 + k)) q1 m k))), some (.int (ii (k : Int))), none] [] S (lkI I b z) X := by
    refine loop_up fun k hk ih => ?_
    intro z
    have ih := fun q h1 h2 => ih q h1 h2 z
    refine v_iload dX9_look_137 rfl ?_
    refine v_aload_n dX9_look_139 rfl ?_
    refine v_getr dX9_look_140 fr_X9_9 (by assumption) (by decide) rfl (by assumption) ?_
    refine v_iconst dX9_look_143 ?_
    refine v_iald (j := 0) dX9_look_144 (by assumption) rfl (by omega) ?_
    rw [lkI_ne (by omega), hn]
    refine v_ic_ge (tgt := 194) dX9_look_145 (by decide) (fun h145 => ?_) (fun h145 => ?_)
    · obtain rfl : k = n := by omega
      refine v_iload dX9_look_194 rfl ?_
      exact v_iE dX9_look_196 rfl (rfl) (rfl)
    · have w6k := w6 k (by omega)
      obtain ⟨d, hd⟩ := Int.eq_ofNat_of_zero_le w6k.1
      have kr := lkF_rng (f := fun k => I 509 (7 + k)) (s := q1) (m := m) (fun k hk => w6 k hk) k (by omega)
      have h01 := btI_01 q1 d
      have ex : lkF (fun k => I 509 (7 + k)) q1 m (k + 1) = if btI q1 (I 509 (7 + k)).toNat = 1 ∧ (lkF (fun k => I 509 (7 + k)) q1 m k < 0 ∨ m = 0) then I 509 (7 + k) else lkF (fun k => I 509 (7 + k)) q1 m k := rfl
      rw [hd, Int.toNat_natCast] at ex
      have hd8 : d < 8 := by omega
      refine v_aload_n dX9_look_148 rfl ?_
      refine v_getr dX9_look_149 fr_X9_9 (by assumption) (by decide) rfl (by assumption) ?_
      refine v_bipush dX9_look_152 (by decide) ?_
      refine v_iload dX9_look_154 rfl ?_
      refine v_iadd dX9_look_156 ?_
      refine v_iald (j := 7 + k) dX9_look_157 (by assumption) (by omega) (by omega) ?_
      rw [lkI_ne (by omega), hd]
      refine v_ist7 dX9_look_158 rfl ?_
      refine v_iload_n dX9_look_160 rfl ?_
      refine v_iload dX9_look_161 rfl ?_
      refine v_ishr (z := ((q1 / 2 ^ d : Nat) : Int)) dX9_look_163 (shr_b q1 hq1 d hd8) ?_
      refine v_iconst dX9_look_164 ?_
      refine v_iand (z := btI q1 d) dX9_look_165 (and_b _ (by have := Nat.div_le_self q1 (2 ^ d); omega)) ?_
      refine v_iconst dX9_look_166 ?_
      refine v_ic_ne (tgt := 184) dX9_look_167 (by decide) (fun h167 => ?_) (fun h167 => ?_)
      · refine v_iload dX9_look_184 rfl ?_
        refine v_ist5 dX9_look_186 rfl ?_
        refine v_iinc6 dX9_look_188 rfl ?_
        refine v_goto (tgt := 137) dX9_look_191 (by decide) ?_
        have q9 := ih (k + 1) (by omega) (by omega)
        rw [ex] at q9
        first
          | (rw [if_pos (by omega)] at q9; exact v_fgt2 q9 (fgt_c (Or.inr rfl) (fgt_c (Or.inr rfl) (fgt_c (Or.inr rfl) (fgt_c (Or.inr rfl) (fgt_c (Or.inr rfl) (fgt_c (Or.inr rfl) (fgt_c (Or.inr rfl) (fgt_c (Or.inl rfl) (fgt_n))))))))))
          | (rw [if_neg (by omega)] at q9; exact v_fgt2 q9 (fgt_c (Or.inr rfl) (fgt_c (Or.inr rfl) (fgt_c (Or.inr rfl) (fgt_c (Or.inr rfl) (fgt_c (Or.inr rfl) (fgt_c (Or.inr rfl) (fgt_c (Or.inr rfl) (fgt_c (Or.inl rfl) (fgt_n))))))))))
      · refine v_iload dX9_look_170 rfl ?_
        refine v_if_lt (tgt := 179) dX9_look_172 (by decide) (fun h172 => ?_) (fun h172 => ?_)
        · refine v_iload dX9_look_179 rfl ?_
          refine v_goto (tgt := 186) dX9_look_181 (by decide) ?_
          refine v_ist5 dX9_look_186 rfl ?_
          refine v_iinc6 dX9_look_188 rfl ?_
          refine v_goto (tgt := 137) dX9_look_191 (by decide) ?_
          have q9 := ih (k + 1) (by omega) (by omega)
          rw [ex] at q9
          first
            | (rw [if_pos (by omega)] at q9; exact v_fgt2 q9 (fgt_c (Or.inr rfl) (fgt_c (Or.inr rfl) (fgt_c (Or.inr rfl) (fgt_c (Or.inr rfl) (fgt_c (Or.inr rfl) (fgt_c (Or.inr rfl) (fgt_c (Or.inr rfl) (fgt_c (Or.inl rfl) (fgt_n))))))))))
            | (rw [if_neg (by omega)] at q9; exact v_fgt2 q9 (fgt_c (Or.inr rfl) (fgt_c (Or.inr rfl) (fgt_c (Or.inr rfl) (fgt_c (Or.inr rfl) (fgt_c (Or.inr rfl) (fgt_c (Or.inr rfl) (fgt_c (Or.inr rfl) (fgt_c (Or.inl rfl) (fgt_n))))))))))
        · refine v_iload_n dX9_look_175 rfl ?_
          refine v_if_ne (tgt := 184) dX9_look_176 (by decide) (fun h176 => ?_) (fun h176 => ?_)
          · refine v_iload dX9_look_184 rfl ?_
            refine v_ist5 dX9_look_186 rfl ?_
            refine v_iinc6 dX9_look_188 rfl ?_
            refine v_goto (tgt := 137) dX9_look_191 (by decide) ?_
            have q9 := ih (k + 1) (by omega) (by omega)
            rw [ex] at q9
            first
              | (rw [if_pos (by omega)] at q9; exact v_fgt2 q9 (fgt_c (Or.inr rfl) (fgt_c (Or.inr rfl) (fgt_c (Or.inr rfl) (fgt_c (Or.inr rfl) (fgt_c (Or.inr rfl) (fgt_c (Or.inr rfl) (fgt_c (Or.inr rfl) (fgt_c (Or.inl rfl) (fgt_n))))))))))
              | (rw [if_neg (by omega)] at q9; exact v_fgt2 q9 (fgt_c (Or.inr rfl) (fgt_c (Or.inr rfl) (fgt_c (Or.inr rfl) (fgt_c (Or.inr rfl) (fgt_c (Or.inr rfl) (fgt_c (Or.inr rfl) (fgt_c (Or.inr rfl) (fgt_c (Or.inl rfl) (fgt_n))))))))))
          · refine v_iload dX9_look_179 rfl ?_
            refine v_goto (tgt := 186) dX9_look_181 (by decide) ?_
            refine v_ist5 dX9_look_186 rfl ?_
            refine v_iinc6 dX9_look_188 rfl ?_
            refine v_goto (tgt := 137) dX9_look_191 (by decide) ?_
            have q9 := ih (k + 1) (by omega) (by omega)
            rw [ex] at q9
            first
              | (rw [if_pos (by omega)] at q9; exact v_fgt2 q9 (fgt_c (Or.inr rfl) (fgt_c (Or.inr rfl) (fgt_c (Or.inr rfl) (fgt_c (Or.inr rfl) (fgt_c (Or.inr rfl) (fgt_c (Or.inr rfl) (fgt_c (Or.inr rfl) (fgt_c (Or.inl rfl) (fgt_n))))))))))
              | (rw [if_neg (by omega)] at q9; exact v_fgt2 q9 (fgt_c (Or.inr rfl) (fgt_c (Or.inr rfl) (fgt_c (Or.inr rfl) (fgt_c (Or.inr rfl) (fgt_c (Or.inr rfl) (fgt_c (Or.inr rfl) (fgt_c (Or.inr rfl) (fgt_c (Or.inl rfl) (fgt_n))))))))))
  refine v_aload_n dX9_look_115 rfl ?_
  refine v_iload_n dX9_look_116 rfl ?_
  refine v_cS1 dX9_look_117 lk_X9_244 (k_isOne hfl hq1) (by decide) (Nat.le_of_ble_eq_true rfl) ?_ rfl
  refine v_if_ne (tgt := 127) dX9_look_120 (by decide) (fun h120 => ?_) (fun h120 => ?_)
  · refine v_iconst dX9_look_127 ?_
    refine v_putz dX9_look_128 fr_X9_241 (by assumption) (by decide) rfl (by first | exact Or.inl rfl | exact Or.inr rfl) ?_
    rw [fr]
    refine v_iconst dX9_look_131 ?_
    refine v_ist5 dX9_look_132 rfl ?_
    refine v_iconst dX9_look_134 ?_
    refine v_ist6 dX9_look_135 rfl ?_
    first
      | (rw [show (if pop8 q1 ≤ 1 then (0 : Int) else 1) = 1 from if_neg (fun h => by rw [if_pos h] at on; omega)]; exact v_fgt2 (L 0 (Nat.zero_le _) 1) (fgt_c (Or.inr rfl) (fgt_c (Or.inr rfl) (fgt_c (Or.inr rfl) (fgt_c (Or.inr rfl) (fgt_c (Or.inr rfl) (fgt_c (Or.inr rfl) (fgt_c (Or.inr rfl) (fgt_c (Or.inl rfl) (fgt_n))))))))))
      | (rw [show (if pop8 q1 ≤ 1 then (0 : Int) else 1) = 0 from if_pos (by refine Decidable.byContradiction fun h => ?_; rw [if_neg h] at on; omega)]; exact v_fgt2 (L 0 (Nat.zero_le _) 0) (fgt_c (Or.inr rfl) (fgt_c (Or.inr rfl) (fgt_c (Or.inr rfl) (fgt_c (Or.inr rfl) (fgt_c (Or.inr rfl) (fgt_c (Or.inr rfl) (fgt_c (Or.inr rfl) (fgt_c (Or.inl rfl) (fgt_n))))))))))
  · refine v_iconst dX9_look_123 ?_
    refine v_goto (tgt := 128) dX9_look_124 (by decide) ?_
    refine v_putz dX9_look_128 fr_X9_241 (by assumption) (by decide) rfl (by first | exact Or.inl rfl | exact Or.inr rfl) ?_
    rw [fr]
    refine v_iconst dX9_look_131 ?_
    refine v_ist5 dX9_look_132 rfl ?_
    refine v_iconst dX9_look_134 ?_
    refine v_ist6 dX9_look_135 rfl ?_
    first
      | (rw [show (if pop8 q1 ≤ 1 then (0 : Int) else 1) = 1 from if_neg (fun h => by rw [if_pos h] at on; omega)]; exact v_fgt2 (L 0 (Nat.zero_le _) 1) (fgt_c (Or.inr rfl) (fgt_c (Or.inr rfl) (fgt_c (Or.inr rfl) (fgt_c (Or.inr rfl) (fgt_c (Or.inr rfl) (fgt_c (Or.inr rfl) (fgt_c (Or.inr rfl) (fgt_c (Or.inl rfl) (fgt_n))))))))))
      | (rw [show (if pop8 q1 ≤ 1 then (0 : Int) else 1) = 0 from if_pos (by refine Decidable.byContradiction fun h => ?_; rw [if_neg h] at on; omega)]; exact v_fgt2 (L 0 (Nat.zero_le _) 0) (fgt_c (Or.inr rfl) (fgt_c (Or.inr rfl) (fgt_c (Or.inr rfl) (fgt_c (Or.inr rfl) (fgt_c (Or.inr rfl) (fgt_c (Or.inr rfl) (fgt_c (Or.inr rfl) (fgt_c (Or.inl rfl) (fgt_n))))))))))

set_option maxRecDepth 100000 in
set_option maxHeartbeats 4000000 in
theorem k_lookA {l : Launch} {g : GV} {S : SS} {I : II} {X : XX} {s r n : Nat} {m t : Int} (hfl : l.stackTraces = false) (hM : isMod S) (hW : WfM I) (hRG : RG I) (hn : I 509 0 = (n : Int)) (hrr : I 508 15 = (r : Int)) (hs : s < 256) (hr : r < 9) (hm : m = 0 ∨ m = 1) (ht : (I 509 5 = 0 ∧ t = 1) ∨ (¬ I 509 5 = 0 ∧ t = 0)) : ∀ i : Nat, i ≤ r → V l g mX9_look 2 (Zm g (QE (some (.int (ii (lkV I r s m)))) S (lkM I r s m) X)) 0 0 40 [some (.ref 508), some (.int (ii (s : Int))), some (.int (ii m)), some (.int (ii ((lkQ I r s m i).1 : Nat))), some (.int (ii t)), some (.int (ii (i : Int))), none, none] [] S (lkI I (lkQ I r s m i).2.2 0) X := by
  obtain ⟨m0, ⟨p509, q509⟩, ⟨p510, q510⟩, ⟨p511, q511⟩, ⟨p512, q512⟩, ⟨p513, q513⟩, ⟨p514, q514⟩, ⟨p515, q515⟩, ⟨p516, q516⟩, ⟨p517, q517⟩, ⟨p518, q518⟩, ⟨p519, q519⟩, ⟨p520, q520⟩, ⟨p521, q521⟩, ⟨p522, q522⟩, ⟨p523, q523⟩, ⟨p524, q524⟩, ⟨p525, q525⟩, ⟨p526, q526⟩, ⟨p527, q527⟩, ⟨p528, q528⟩, ⟨p529, q529⟩, ⟨p530, q530⟩, ⟨p531, q531⟩, ⟨p532, q532⟩, ⟨p533, q533⟩, ⟨p534, q534⟩, ⟨p535, q535⟩, ⟨p536, q536⟩, ⟨p537, q537⟩, ⟨p538, q538⟩, ⟨p539, q539⟩, ⟨p540, q540⟩⟩ := id hM
  obtain ⟨w0, w1, w2, w3, w4, w5, w6, w7, w8, w9, w10⟩ := id hW
  have hq : ∀ i, lkQ I r s m i = chT (mVt I) n (I 509 5) r m s i := by
    intro i
    unfold lkQ
    rw [hn]
    rfl
  refine loop_up fun i hi ih => ?_
  have hQl := chT_lt (nc := n) (r := r) (s := s) (tr := I 509 5) (m := m) (F := mVt I) (by omega) hr (fun k _ c _ => hRG _ _) i (by omega)
  have ex : chT (mVt I) n (I 509 5) r m s (i + 1) = chS (mVt I) n (I 509 5) r m i (chT (mVt I) n (I 509 5) r m s i) := rfl
  unfold chS at ex
  have hQt := lkT_rng (I := I) (s := s) (m := m) hr i (by omega)
  have hQs := fun h => chT_stop (F := mVt I) (nc := n) (r := r) (s := s) (tr := I 509 5) (m := m) (i := i) h (r - i)
  rw [hq] at hQt
  rw [hq]
  generalize hQ : chT (mVt I) n (I 509 5) r m s i = Q at hQl hQt hQs ex ⊢
  have on : onF Q.1 = if pop8 Q.1 ≤ 1 then 1 else 0 := rfl
  have hMW : WfM (lkI I Q.2.2 0) := WfM_of hW (lkI_ne (by omega))
  have hMR : RG (lkI I Q.2.2 0) := rg_up (rg_up hRG (by omega)) (by omega)
  have hV : mVt (lkI I Q.2.2 0) = mVt I := by
    funext r c
    unfold mVt
    rw [lkI_ne (by omega)]
  refine v_iload dX9_look_40 rfl ?_
  refine v_aload_n dX9_look_42 rfl ?_
  refine v_geti dX9_look_43 fr_X9_212 (by assumption) (by decide) rfl ?_
  rw [lkI_f (by omega) (by omega), hrr]
  refine v_ic_ge (tgt := 115) dX9_look_46 (by decide) (fun h46 => ?_) (fun h46 => ?_)
  · have hir : lkQ I r s m r = Q := by
      rw [hq]
      first
        | (rw [show i + (r - i) = r by omega] at hQs; exact hQs (by refine Decidable.byContradiction fun h => ?_; rw [if_neg h] at on; omega))
        | (rw [← hQ, show i = r by omega])
    unfold lkV lkM
    rw [hir, hn, Int.toNat_natCast]
    exact v_fgt2 (k_lookB (s := s) (t := t) hfl hM hW hn hm hQl) (fgt_c (Or.inr rfl) (fgt_c (Or.inr rfl) (fgt_c (Or.inr rfl) (fgt_c (Or.inr rfl) (fgt_c (Or.inr rfl) (fgt_c (Or.inr rfl) (fgt_c (Or.inr rfl) (fgt_c (Or.inr rfl) (fgt_n)))))))))
  · refine v_iload_n dX9_look_49 rfl ?_
    refine v_cS1 dX9_look_50 lk_X9_244 (k_isOne hfl hQl) (by decide) (Nat.le_of_ble_eq_true rfl) ?_ rfl
    refine v_if_ne (tgt := 115) dX9_look_53 (by decide) (fun h53 => ?_) (fun h53 => ?_)
    · have hir : lkQ I r s m r = Q := by
        rw [hq]
        first
          | (rw [show i + (r - i) = r by omega] at hQs; exact hQs (by refine Decidable.byContradiction fun h => ?_; rw [if_neg h] at on; omega))
          | (rw [← hQ, show i = r by omega])
      unfold lkV lkM
      rw [hir, hn, Int.toNat_natCast]
      exact v_fgt2 (k_lookB (s := s) (t := t) hfl hM hW hn hm hQl) (fgt_c (Or.inr rfl) (fgt_c (Or.inr rfl) (fgt_c (Or.inr rfl) (fgt_c (Or.inr rfl) (fgt_c (Or.inr rfl) (fgt_c (Or.inr rfl) (fgt_c (Or.inr rfl) (fgt_c (Or.inr rfl) (fgt_n)))))))))
    · refine v_iload dX9_look_56 rfl ?_
      refine v_if_eq (tgt := 73) dX9_look_58 (by decide) (fun h58 => ?_) (fun h58 => ?_)
      · refine v_iload dX9_look_73 rfl ?_
        refine v_ist6 dX9_look_75 rfl ?_
        refine v_aload_n dX9_look_77 rfl ?_
        refine v_iload_n dX9_look_78 rfl ?_
        refine v_iload dX9_look_79 rfl ?_
        refine v_iload_n dX9_look_81 rfl ?_
        refine v_cV3 dX9_look_82 lk_X9_234 (by assumption) (by decide) rfl (k_foremost hfl hM hMW hMR hQl (by omega) hm) (by decide) (Nat.le_of_ble_eq_true rfl) ?_ rfl
        rw [hV, lkI_ne (x := 509) (by omega), hn, Int.toNat_natCast]
        have hEl : ∀ e, (extF (mVt I e) Q.1 m n).1 < 256 := fun e => (extF_ok (fun c _ => hRG _ _) n (by omega)).1
        have g1 := hEl i
        have g2 := hEl (r - 1 - i)
        refine v_ist7 dX9_look_85 rfl ?_
        refine v_aload_n dX9_look_87 rfl ?_
        refine v_iload dX9_look_88 rfl ?_
        refine v_iload_n dX9_look_90 rfl ?_
        refine v_ic_eq (tgt := 99) dX9_look_91 (by decide) (fun h91 => ?_) (fun h91 => ?_)
        · refine v_aload_n dX9_look_99 rfl ?_
          refine v_geti dX9_look_100 fr_X9_238 (by assumption) (by decide) rfl ?_
          rw [show lkI I Q.2.2 0 508 41 = Q.2.2 by unfold lkI; rw [up_nk (by omega), up_eq]]
          refine v_puti dX9_look_103 fr_X9_238 (by assumption) (by decide) rfl ?_
          rw [show ∀ x : Int, up (lkI I Q.2.2 0) 508 41 x = lkI I x 0 from fun x => up_c41]
          refine v_iload dX9_look_106 rfl ?_
          refine v_istn3 dX9_look_108 rfl ?_
          refine v_iinc5 dX9_look_109 rfl ?_
          refine v_goto (tgt := 40) dX9_look_112 (by decide) ?_
          have q9 := ih (i + 1) (by omega) (by omega)
          rw [hq, ex, if_neg (fun h => by rw [if_pos h] at on; omega)] at q9
          rcases ht with ⟨t5, t1⟩ | ⟨t5, t1⟩
          all_goals first
            | (exfalso; omega)
            | (first | rw [if_pos t5] at q9 | rw [if_neg t5] at q9
               first
                 | (rw [if_neg (by omega)] at q9; exact v_fgt2 q9 (fgt_c (Or.inr rfl) (fgt_c (Or.inr rfl) (fgt_c (Or.inr rfl) (fgt_c (Or.inr rfl) (fgt_c (Or.inr rfl) (fgt_c (Or.inr rfl) (fgt_c (Or.inl rfl) (fgt_c (Or.inl rfl) (fgt_n))))))))))
                 | (rw [if_pos (by omega)] at q9
                    have e91 : (extF (mVt I (r - 1 - i)) Q.1 m n).1 = Q.1 := by omega
                    rw [e91]
                    exact v_fgt2 q9 (fgt_c (Or.inr rfl) (fgt_c (Or.inr rfl) (fgt_c (Or.inr rfl) (fgt_c (Or.inr rfl) (fgt_c (Or.inr rfl) (fgt_c (Or.inr rfl) (fgt_c (Or.inl rfl) (fgt_c (Or.inl rfl) (fgt_n))))))))))
                 | (rw [if_pos (by omega)] at q9
                    have e91 : (extF (mVt I i) Q.1 m n).1 = Q.1 := by omega
                    rw [e91]
                    exact v_fgt2 q9 (fgt_c (Or.inr rfl) (fgt_c (Or.inr rfl) (fgt_c (Or.inr rfl) (fgt_c (Or.inr rfl) (fgt_c (Or.inr rfl) (fgt_c (Or.inr rfl) (fgt_c (Or.inl rfl) (fgt_c (Or.inl rfl) (fgt_n)))))))))))
        · refine v_iload dX9_look_94 rfl ?_
          refine v_goto (tgt := 103) dX9_look_96 (by decide) ?_
          refine v_puti dX9_look_103 fr_X9_238 (by assumption) (by decide) rfl ?_
          rw [show ∀ x : Int, up (lkI I Q.2.2 0) 508 41 x = lkI I x 0 from fun x => up_c41]
          refine v_iload dX9_look_106 rfl ?_
          refine v_istn3 dX9_look_108 rfl ?_
          refine v_iinc5 dX9_look_109 rfl ?_
          refine v_goto (tgt := 40) dX9_look_112 (by decide) ?_
          have q9 := ih (i + 1) (by omega) (by omega)
          rw [hq, ex, if_neg (fun h => by rw [if_pos h] at on; omega)] at q9
          rcases ht with ⟨t5, t1⟩ | ⟨t5, t1⟩
          all_goals first
            | (exfalso; omega)
            | (first | rw [if_pos t5] at q9 | rw [if_neg t5] at q9
               first
                 | (rw [if_neg (by omega)] at q9; exact v_fgt2 q9 (fgt_c (Or.inr rfl) (fgt_c (Or.inr rfl) (fgt_c (Or.inr rfl) (fgt_c (Or.inr rfl) (fgt_c (Or.inr rfl) (fgt_c (Or.inr rfl) (fgt_c (Or.inl rfl) (fgt_c (Or.inl rfl) (fgt_n))))))))))
                 | (rw [if_pos (by omega)] at q9
                    have e91 : (extF (mVt I (r - 1 - i)) Q.1 m n).1 = Q.1 := by omega
                    rw [e91]
                    exact v_fgt2 q9 (fgt_c (Or.inr rfl) (fgt_c (Or.inr rfl) (fgt_c (Or.inr rfl) (fgt_c (Or.inr rfl) (fgt_c (Or.inr rfl) (fgt_c (Or.inr rfl) (fgt_c (Or.inl rfl) (fgt_c (Or.inl rfl) (fgt_n))))))))))
                 | (rw [if_pos (by omega)] at q9
                    have e91 : (extF (mVt I i) Q.1 m n).1 = Q.1 := by omega
                    rw [e91]
                    exact v_fgt2 q9 (fgt_c (Or.inr rfl) (fgt_c (Or.inr rfl) (fgt_c (Or.inr rfl) (fgt_c (Or.inr rfl) (fgt_c (Or.inr rfl) (fgt_c (Or.inr rfl) (fgt_c (Or.inl rfl) (fgt_c (Or.inl rfl) (fgt_n)))))))))))
      · refine v_aload_n dX9_look_61 rfl ?_
        refine v_geti dX9_look_62 fr_X9_212 (by assumption) (by decide) rfl ?_
        rw [lkI_f (by omega) (by omega), hrr]
        refine v_iconst dX9_look_65 ?_
        refine v_isub dX9_look_66 ?_
        refine v_iload dX9_look_67 rfl ?_
        refine v_isub dX9_look_69 ?_
        rw [show (r : Int) - 1 - (i : Int) = ((r - 1 - i : Nat) : Int) by omega]
        refine v_goto (tgt := 75) dX9_look_70 (by decide) ?_
        refine v_ist6 dX9_look_75 rfl ?_
        refine v_aload_n dX9_look_77 rfl ?_
        refine v_iload_n dX9_look_78 rfl ?_
        refine v_iload dX9_look_79 rfl ?_
        refine v_iload_n dX9_look_81 rfl ?_
        refine v_cV3 dX9_look_82 lk_X9_234 (by assumption) (by decide) rfl (k_foremost hfl hM hMW hMR hQl (by omega) hm) (by decide) (Nat.le_of_ble_eq_true rfl) ?_ rfl
        rw [hV, lkI_ne (x := 509) (by omega), hn, Int.toNat_natCast]
        have hEl : ∀ e, (extF (mVt I e) Q.1 m n).1 < 256 := fun e => (extF_ok (fun c _ => hRG _ _) n (by omega)).1
        have g1 := hEl i
        have g2 := hEl (r - 1 - i)
        refine v_ist7 dX9_look_85 rfl ?_
        refine v_aload_n dX9_look_87 rfl ?_
        refine v_iload dX9_look_88 rfl ?_
        refine v_iload_n dX9_look_90 rfl ?_
        refine v_ic_eq (tgt := 99) dX9_look_91 (by decide) (fun h91 => ?_) (fun h91 => ?_)
        · refine v_aload_n dX9_look_99 rfl ?_
          refine v_geti dX9_look_100 fr_X9_238 (by assumption) (by decide) rfl ?_
          rw [show lkI I Q.2.2 0 508 41 = Q.2.2 by unfold lkI; rw [up_nk (by omega), up_eq]]
          refine v_puti dX9_look_103 fr_X9_238 (by assumption) (by decide) rfl ?_
          rw [show ∀ x : Int, up (lkI I Q.2.2 0) 508 41 x = lkI I x 0 from fun x => up_c41]
          refine v_iload dX9_look_106 rfl ?_
          refine v_istn3 dX9_look_108 rfl ?_
          refine v_iinc5 dX9_look_109 rfl ?_
          refine v_goto (tgt := 40) dX9_look_112 (by decide) ?_
          have q9 := ih (i + 1) (by omega) (by omega)
          rw [hq, ex, if_neg (fun h => by rw [if_pos h] at on; omega)] at q9
          rcases ht with ⟨t5, t1⟩ | ⟨t5, t1⟩
          all_goals first
            | (exfalso; omega)
            | (first | rw [if_pos t5] at q9 | rw [if_neg t5] at q9
               first
                 | (rw [if_neg (by omega)] at q9; exact v_fgt2 q9 (fgt_c (Or.inr rfl) (fgt_c (Or.inr rfl) (fgt_c (Or.inr rfl) (fgt_c (Or.inr rfl) (fgt_c (Or.inr rfl) (fgt_c (Or.inr rfl) (fgt_c (Or.inl rfl) (fgt_c (Or.inl rfl) (fgt_n))))))))))
                 | (rw [if_pos (by omega)] at q9
                    have e91 : (extF (mVt I (r - 1 - i)) Q.1 m n).1 = Q.1 := by omega
                    rw [e91]
                    exact v_fgt2 q9 (fgt_c (Or.inr rfl) (fgt_c (Or.inr rfl) (fgt_c (Or.inr rfl) (fgt_c (Or.inr rfl) (fgt_c (Or.inr rfl) (fgt_c (Or.inr rfl) (fgt_c (Or.inl rfl) (fgt_c (Or.inl rfl) (fgt_n))))))))))
                 | (rw [if_pos (by omega)] at q9
                    have e91 : (extF (mVt I i) Q.1 m n).1 = Q.1 := by omega
                    rw [e91]
                    exact v_fgt2 q9 (fgt_c (Or.inr rfl) (fgt_c (Or.inr rfl) (fgt_c (Or.inr rfl) (fgt_c (Or.inr rfl) (fgt_c (Or.inr rfl) (fgt_c (Or.inr rfl) (fgt_c (Or.inl rfl) (fgt_c (Or.inl rfl) (fgt_n)))))))))))
        · refine v_iload dX9_look_94 rfl ?_
          refine v_goto (tgt := 103) dX9_look_96 (by decide) ?_
          refine v_puti dX9_look_103 fr_X9_238 (by assumption) (by decide) rfl ?_
          rw [show ∀ x : Int, up (lkI I Q.2.2 0) 508 41 x = lkI I x 0 from fun x => up_c41]
          refine v_iload dX9_look_106 rfl ?_
          refine v_istn3 dX9_look_108 rfl ?_
          refine v_iinc5 dX9_look_109 rfl ?_
          refine v_goto (tgt := 40) dX9_look_112 (by decide) ?_
          have q9 := ih (i + 1) (by omega) (by omega)
          rw [hq, ex, if_neg (fun h => by rw [if_pos h] at on; omega)] at q9
          rcases ht with ⟨t5, t1⟩ | ⟨t5, t1⟩
          all_goals first
            | (exfalso; omega)
            | (first | rw [if_pos t5] at q9 | rw [if_neg t5] at q9
               first
                 | (rw [if_neg (by omega)] at q9; exact v_fgt2 q9 (fgt_c (Or.inr rfl) (fgt_c (Or.inr rfl) (fgt_c (Or.inr rfl) (fgt_c (Or.inr rfl) (fgt_c (Or.inr rfl) (fgt_c (Or.inr rfl) (fgt_c (Or.inl rfl) (fgt_c (Or.inl rfl) (fgt_n))))))))))
                 | (rw [if_pos (by omega)] at q9
                    have e91 : (extF (mVt I (r - 1 - i)) Q.1 m n).1 = Q.1 := by omega
                    rw [e91]
                    exact v_fgt2 q9 (fgt_c (Or.inr rfl) (fgt_c (Or.inr rfl) (fgt_c (Or.inr rfl) (fgt_c (Or.inr rfl) (fgt_c (Or.inr rfl) (fgt_c (Or.inr rfl) (fgt_c (Or.inl rfl) (fgt_c (Or.inl rfl) (fgt_n))))))))))
                 | (rw [if_pos (by omega)] at q9
                    have e91 : (extF (mVt I i) Q.1 m n).1 = Q.1 := by omega
                    rw [e91]
                    exact v_fgt2 q9 (fgt_c (Or.inr rfl) (fgt_c (Or.inr rfl) (fgt_c (Or.inr rfl) (fgt_c (Or.inr rfl) (fgt_c (Or.inr rfl) (fgt_c (Or.inr rfl) (fgt_c (Or.inl rfl) (fgt_c (Or.inl rfl) (fgt_n)))))))))))

set_option maxRecDepth 100000 in
set_option maxHeartbeats 4000000 in
theorem k_look {l : Launch} {g : GV} {S : SS} {I : II} {X : XX} {s r : Nat} {m : Int} (hfl : l.stackTraces = false) (hM : isMod S) (hW : WfM I) (hRG : RG I) (hrr : I 508 15 = (r : Int)) (hs : s < 256) (hr : r < 9) (hm : m = 0 ∨ m = 1) : CE l g mX9_look 2 [.ref 508, .int (ii (s : Int)), .int (ii m)] S I X (some (.int (ii (lkV I r s m)))) (lkM I r s m) := by
  obtain ⟨m0, ⟨p509, q509⟩, ⟨p510, q510⟩, ⟨p511, q511⟩, ⟨p512, q512⟩, ⟨p513, q513⟩, ⟨p514, q514⟩, ⟨p515, q515⟩, ⟨p516, q516⟩, ⟨p517, q517⟩, ⟨p518, q518⟩, ⟨p519, q519⟩, ⟨p520, q520⟩, ⟨p521, q521⟩, ⟨p522, q522⟩, ⟨p523, q523⟩, ⟨p524, q524⟩, ⟨p525, q525⟩, ⟨p526, q526⟩, ⟨p527, q527⟩, ⟨p528, q528⟩, ⟨p529, q529⟩, ⟨p530, q530⟩, ⟨p531, q531⟩, ⟨p532, q532⟩, ⟨p533, q533⟩, ⟨p534, q534⟩, ⟨p535, q535⟩, ⟨p536, q536⟩, ⟨p537, q537⟩, ⟨p538, q538⟩, ⟨p539, q539⟩, ⟨p540, q540⟩⟩ := id hM
  obtain ⟨w0, w1, w2, w3, w4, w5, w6, w7, w8, w9, w10⟩ := id hW
  obtain ⟨n, hn⟩ := Int.eq_ofNat_of_zero_le (show 0 ≤ I 509 0 by omega)
  refine v_startE hfl rfl (by decide) (Nat.le_of_ble_eq_true rfl) (ls := [some (.ref 508), some (.int (ii (s : Int))), some (.int (ii m)), none, none, none, none, none]) rfl ?_
  refine v_aload_n dX9_look_0 rfl ?_
  refine v_iload_n dX9_look_1 rfl ?_
  refine v_aload_n dX9_look_2 rfl ?_
  refine v_geti dX9_look_3 fr_X9_212 (by assumption) (by decide) rfl ?_
  rw [hrr]
  refine v_iload_n dX9_look_6 rfl ?_
  refine v_cV3 dX9_look_7 lk_X9_234 (by assumption) (by decide) rfl (k_foremost hfl hM hW hRG hs hr hm) (by decide) (Nat.le_of_ble_eq_true rfl) ?_ rfl
  refine v_istn3 dX9_look_10 rfl ?_
  refine v_aload_n dX9_look_11 rfl ?_
  refine v_getr dX9_look_12 fr_X9_9 (by assumption) (by decide) rfl (by assumption) ?_
  refine v_iconst dX9_look_15 ?_
  refine v_iald (j := 5) dX9_look_16 (by assumption) (by first | rfl | omega) (by omega) ?_
  refine v_if_ne (tgt := 24) dX9_look_17 (by decide) (fun h17 => ?_) (fun h17 => ?_)
  · refine v_iconst dX9_look_24 ?_
    refine v_ist4 dX9_look_25 rfl ?_
    refine v_aload_n dX9_look_27 rfl ?_
    refine v_iconst dX9_look_28 ?_
    refine v_puti dX9_look_29 fr_X9_238 (by assumption) (by decide) rfl ?_
    refine v_aload_n dX9_look_32 rfl ?_
    refine v_iconst dX9_look_33 ?_
    refine v_putz dX9_look_34 fr_X9_241 (by assumption) (by decide) rfl (by first | exact Or.inl rfl | exact Or.inr rfl | omega) ?_
    refine v_iconst dX9_look_37 ?_
    refine v_ist5 dX9_look_38 rfl ?_
    rw [show up (up I 508 41 (-1)) 508 42 0 = lkI I (lkQ I r s m 0).2.2 0 from rfl, show (extF (mVt I r) s m (I 509 0).toNat).1 = (lkQ I r s m 0).1 from rfl]
    exact v_fgt2 (k_lookA hfl hM hW hRG hn hrr hs hr hm (by omega) 0 (Nat.zero_le _)) (fgt_c (Or.inr rfl) (fgt_c (Or.inr rfl) (fgt_c (Or.inr rfl) (fgt_c (Or.inr rfl) (fgt_c (Or.inr rfl) (fgt_c (Or.inr rfl) (fgt_c (Or.inl rfl) (fgt_c (Or.inl rfl) (fgt_n)))))))))
  · refine v_iconst dX9_look_20 ?_
    refine v_goto (tgt := 25) dX9_look_21 (by decide) ?_
    refine v_ist4 dX9_look_25 rfl ?_
    refine v_aload_n dX9_look_27 rfl ?_
    refine v_iconst dX9_look_28 ?_
    refine v_puti dX9_look_29 fr_X9_238 (by assumption) (by decide) rfl ?_
    refine v_aload_n dX9_look_32 rfl ?_
    refine v_iconst dX9_look_33 ?_
    refine v_putz dX9_look_34 fr_X9_241 (by assumption) (by decide) rfl (by first | exact Or.inl rfl | exact Or.inr rfl | omega) ?_
    refine v_iconst dX9_look_37 ?_
    refine v_ist5 dX9_look_38 rfl ?_
    rw [show up (up I 508 41 (-1)) 508 42 0 = lkI I (lkQ I r s m 0).2.2 0 from rfl, show (extF (mVt I r) s m (I 509 0).toNat).1 = (lkQ I r s m 0).1 from rfl]
    exact v_fgt2 (k_lookA hfl hM hW hRG hn hrr hs hr hm (by omega) 0 (Nat.zero_le _)) (fgt_c (Or.inr rfl) (fgt_c (Or.inr rfl) (fgt_c (Or.inr rfl) (fgt_c (Or.inr rfl) (fgt_c (Or.inr rfl) (fgt_c (Or.inr rfl) (fgt_c (Or.inl rfl) (fgt_c (Or.inl rfl) (fgt_n)))))))))
