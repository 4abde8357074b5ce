/-! SETS AND CHOICES -/
def pop8 (s : Nat) : Nat := s % 2 + s / 2 % 2 + s / 4 % 2 + s / 8 % 2 + s / 16 % 2 + s / 32 % 2 + s / 64 % 2 + s / 128 % 2
theorem shl_b : ∀ c : Nat, c < 8 → ii 1 <<< (ii ((c : Nat) : Int) &&& 31) = ii ((2 ^ c : Nat) : Int) := by decide +kernel
def msk (s c : Nat) : Nat := if btI s c = 0 then 0 else 2 ^ c
theorem and_m : ∀ s : Nat, s < 256 → ∀ c : Nat, c < 8 → ii ((s : Nat) : Int) &&& ii ((2 ^ c : Nat) : Int) = ii ((msk s c : Nat) : Int) := by decide +kernel
theorem or_b : ∀ s : Nat, s < 256 → ∀ c : Nat, c < 8 → ii ((s : Nat) : Int) ||| ii ((2 ^ c : Nat) : Int) = ii ((s ||| 2 ^ c : Nat) : Int) := by decide +kernel
theorem or_lt : ∀ s : Nat, s < 256 → ∀ c : Nat, c < 8 → s ||| 2 ^ c < 256 := by decide +kernel
theorem pow_lt8 : ∀ c : Nat, c < 8 → 2 ^ c < 256 := by decide +kernel
theorem msk_lt : ∀ s : Nat, s < 256 → ∀ c : Nat, c < 8 → msk s c < 256 := by decide +kernel
theorem msk_0 (s c : Nat) : ((msk s c : Nat) : Int) = 0 ↔ btI s c = 0 := by
  unfold msk
  by_cases h : btI s c = 0
  · rw [if_pos h]; exact ⟨fun _ => h, fun _ => rfl⟩
  · rw [if_neg h]
    refine ⟨fun q => ?_, fun q => absurd q h⟩
    have : 0 < 2 ^ c := Nat.two_pow_pos c
    omega
/-- those of a set with the most (m not 0) or the fewest, so far: the set, the number -/
def exS (f : Nat → Int) (s : Nat) (m : Int) (c : Nat) (q : Nat × Int) : Nat × Int :=
  if btI s c = 0 then q else if q.1 = 0 ∨ (m = 0 ∧ f c < q.2) ∨ (¬ m = 0 ∧ q.2 < f c) then (2 ^ c, f c) else if f c = q.2 then (q.1 ||| 2 ^ c, q.2) else q
def extF (f : Nat → Int) (s : Nat) (m : Int) (n : Nat) : Nat × Int := foldUp (exS f s m) (0, 0) n
theorem extF_ok {f : Nat → Int} {s : Nat} {m : Int} (hr : ∀ c, c < 8 → -2147483648 ≤ f c ∧ f c < 2147483648) : ∀ n, n ≤ 8 → (extF f s m n).1 < 256 ∧ -2147483648 ≤ (extF f s m n).2 ∧ (extF f s m n).2 < 2147483648
  | 0, _ => by
    show (0 : Nat) < 256 ∧ -2147483648 ≤ (0 : Int) ∧ (0 : Int) < 2147483648
    decide
  | n + 1, h => by
    have ih := extF_ok hr (s := s) (m := m) n (by omega)
    show (exS f s m n (extF f s m n)).1 < 256 ∧ _
    have e : extF f s m (n + 1) = exS f s m n (extF f s m n) := rfl
    rw [e]
    unfold exS
    have hn := hr n (by omega)
    have h1 := pow_lt8 n (by omega)
    have h2 := or_lt _ ih.1 n (by omega)
    split
    · exact ih
    · split
      · exact ⟨h1, hn⟩
      · split
        · exact ⟨h2, ih.2⟩
        · exact ih
/-- the first in the lot, looked at from the front (m not 0) or from behind -/
def lotF (f : Nat → Int) (s : Nat) (m : Int) (n : Nat) : Nat → Nat → Int
  | 0, _ => -1
  | k + 1, i => if btI s (f (if m = 0 then n - 1 - i else i)).toNat = 0 then lotF f s m n k (i + 1) else f (if m = 0 then n - 1 - i else i)
/-- a choice's tie, round by round: the set left, how it was made, the round -/
def chS (F : Nat → Nat → Int) (nc : Nat) (tr : Int) (r : Nat) (m : Int) (i : Nat) (q : Nat × Int × Int) : Nat × Int × Int :=
  if pop8 q.1 ≤ 1 then q else
    if (extF (F (if tr = 0 then r - 1 - i else i)) q.1 m nc).1 = q.1 then q else ((extF (F (if tr = 0 then r - 1 - i else i)) q.1 m nc).1, 4, ((if tr = 0 then r - 1 - i else i : Nat) : Int))
def chT (F : Nat → Nat → Int) (nc : Nat) (tr : Int) (r : Nat) (m : Int) (s : Nat) (i : Nat) : Nat × Int × Int := foldUp (chS F nc tr r m) ((extF (F r) s m nc).1, 3, -1) i

set_option maxRecDepth 100000 in
set_option maxHeartbeats 4000000 in
theorem c_bitCount {l : Launch} {g : GV} {S : SS} {I : II} {X : XX} {s : Nat} (hfl : l.stackTraces = false) (hs : s < 256) : CE l g mJ6_bitCount_0f7a4 0 [.int (ii (s : Int))] S I X (some (.int (ii ((pop8 s : Nat) : Int)))) I := by
  refine v_startE hfl rfl (by decide) (Nat.le_of_ble_eq_true rfl) (ls := [some (.int (ii (s : Int)))]) rfl ?_
  refine v_iload_n dJ6_bitCount_0f7a4_0 rfl ?_
  refine v_iload_n dJ6_bitCount_0f7a4_1 rfl ?_
  refine v_iconst dJ6_bitCount_0f7a4_2 ?_
  refine v_iushr dJ6_bitCount_0f7a4_3 (ii_of _).symm ?_
  refine v_ldcw dJ6_bitCount_0f7a4_4 cn_J6_265 ?_
  rw [show (1431655765 : Int32) = ii 1431655765 by decide]
  refine v_iand dJ6_bitCount_0f7a4_7 (ii_of _).symm ?_
  refine v_isub dJ6_bitCount_0f7a4_8 ?_
  refine v_istn0 dJ6_bitCount_0f7a4_9 ?_
  refine v_iload_n dJ6_bitCount_0f7a4_10 rfl ?_
  refine v_ldcw dJ6_bitCount_0f7a4_11 cn_J6_266 ?_
  rw [show (858993459 : Int32) = ii 858993459 by decide]
  refine v_iand dJ6_bitCount_0f7a4_14 (ii_of _).symm ?_
  refine v_iload_n dJ6_bitCount_0f7a4_15 rfl ?_
  refine v_iconst dJ6_bitCount_0f7a4_16 ?_
  refine v_iushr dJ6_bitCount_0f7a4_17 (ii_of _).symm ?_
  refine v_ldcw dJ6_bitCount_0f7a4_18 cn_J6_266 ?_
  rw [show (858993459 : Int32) = ii 858993459 by decide]
  refine v_iand dJ6_bitCount_0f7a4_21 (ii_of _).symm ?_
  refine v_iadd dJ6_bitCount_0f7a4_22 ?_
  refine v_istn0 dJ6_bitCount_0f7a4_23 ?_
  refine v_iload_n dJ6_bitCount_0f7a4_24 rfl ?_
  refine v_iload_n dJ6_bitCount_0f7a4_25 rfl ?_
  refine v_iconst dJ6_bitCount_0f7a4_26 ?_
  refine v_iushr dJ6_bitCount_0f7a4_27 (ii_of _).symm ?_
  refine v_iadd dJ6_bitCount_0f7a4_28 ?_
  refine v_ldcw dJ6_bitCount_0f7a4_29 cn_J6_267 ?_
  rw [show (252645135 : Int32) = ii 252645135 by decide]
  refine v_iand dJ6_bitCount_0f7a4_32 (ii_of _).symm ?_
  refine v_istn0 dJ6_bitCount_0f7a4_33 ?_
  refine v_iload_n dJ6_bitCount_0f7a4_34 rfl ?_
  refine v_iload_n dJ6_bitCount_0f7a4_35 rfl ?_
  refine v_bipush dJ6_bitCount_0f7a4_36 (by decide) ?_
  refine v_iushr dJ6_bitCount_0f7a4_38 (ii_of _).symm ?_
  refine v_iadd dJ6_bitCount_0f7a4_39 ?_
  refine v_istn0 dJ6_bitCount_0f7a4_40 ?_
  refine v_iload_n dJ6_bitCount_0f7a4_41 rfl ?_
  refine v_iload_n dJ6_bitCount_0f7a4_42 rfl ?_
  refine v_bipush dJ6_bitCount_0f7a4_43 (by decide) ?_
  refine v_iushr dJ6_bitCount_0f7a4_45 (ii_of _).symm ?_
  refine v_iadd dJ6_bitCount_0f7a4_46 ?_
  refine v_istn0 dJ6_bitCount_0f7a4_47 ?_
  refine v_iload_n dJ6_bitCount_0f7a4_48 rfl ?_
  refine v_bipush dJ6_bitCount_0f7a4_49 (by decide) ?_
  refine v_iand dJ6_bitCount_0f7a4_51 (ii_of _).symm ?_
  exact v_iE dJ6_bitCount_0f7a4_52 rfl (by revert s; decide +kernel) (rfl)

set_option maxRecDepth 100000 in
set_option maxHeartbeats 4000000 in
theorem c_keepExtreme {l : Launch} {g : GV} {S : SS} {I : II} {X : XX} {c e s rd n : Nat} {m : Int} (hfl : l.stackTraces = false) (hC : isCnt S c e) (hs : s < 256) (hrd : rd < 9) (hn : I e 0 = (n : Int)) (hn8 : n ≤ 8) (hm : m = 0 ∨ m = 1) (hv : ∀ i, i < 8 → -2147483648 ≤ I (c + 1 + 4 + rd) i ∧ I (c + 1 + 4 + rd) i < 2147483648) : CE l g mX0_keepExtreme 0 [.ref (c + 14), .int (ii (s : Int)), .int (ii (rd : Int)), .int (ii m)] S I X (some (.int (ii (((extF (I (c + 1 + 4 + rd)) s m n).1 : Nat) : Int)))) I := by
  obtain ⟨n0, n1, n2, n3, n4, n5, n6, n6a, n7, n7a, n8, n8a, n9, n9a, n10, n10a, hR, hH, hF, hG, hE, hsp⟩ := id hC
  obtain ⟨k0, k1, k2⟩ := hH
  obtain ⟨r0, r1, r1a, r2, r2a, r3, r3a, rr⟩ := id hR
  obtain ⟨y0, y1, y1a, y2, y2a, y3, y3a, y4, y4a, y5, y5a, yr⟩ := id hE
  have L : ∀ i : Nat, i ≤ n → ∀ (k : Nat) (b : Int), extF (I (c + 1 + 4 + rd)) s m i = (k, b) → V l g mX0_keepExtreme 0 (Zm g (QE (some (.int (ii (((extF (I (c + 1 + 4 + rd)) s m n).1 : Nat) : Int)))) S I X)) 0 0 9 [some (.ref (c + 14)), some (.int (ii (s : Int))), some (.int (ii (rd : Int))), some (.int (ii m)), some (.int (ii (k : Int))), some (.int (ii b)), some (.int (ii (i : Int))), none, none] [] S I X := by
    refine loop_up fun i hi ih => ?_
    intro k b hkb
    have q9 := extF_ok hv (s := s) (m := m) i (by omega)
    rw [hkb] at q9
    dsimp only at q9
    refine v_iload dX0_keepExtreme_9 rfl ?_
    refine v_aload_n dX0_keepExtreme_11 rfl ?_
    refine v_getr dX0_keepExtreme_12 fr_X0_9 (by assumption) (by decide) rfl (by assumption) ?_
    refine v_geti dX0_keepExtreme_15 fr_X0_46 (by assumption) (by decide) rfl ?_
    refine v_ic_ge (tgt := 105) dX0_keepExtreme_18 (by decide) (fun h18 => ?_) (fun h18 => ?_)
    · obtain rfl : i = n := by omega
      refine v_iload dX0_keepExtreme_105 rfl ?_
      exact v_iE dX0_keepExtreme_107 rfl (by rw [hkb]) (rfl)
    · have e9 := msk_0 s i
      have e8 := pow_lt8 i (by omega)
      have e7 := msk_lt s hs i (by omega)
      have hr := hv i (by omega)
      have rq := (rr rd hrd).2
      refine v_iconst dX0_keepExtreme_21 ?_
      refine v_iload dX0_keepExtreme_22 rfl ?_
      refine v_ishl (z := ((2 ^ i : Nat) : Int)) dX0_keepExtreme_24 (shl_b i (by omega)) ?_
      refine v_ist7 dX0_keepExtreme_25 rfl ?_
      refine v_aload_n dX0_keepExtreme_27 rfl ?_
      refine v_getr dX0_keepExtreme_28 fr_X0_15 (by assumption) (by decide) rfl (by assumption) ?_
      refine v_getr dX0_keepExtreme_31 fr_X0_49 (by assumption) (by decide) rfl (by assumption) ?_
      refine v_iload_n dX0_keepExtreme_34 rfl ?_
      refine v_aald22 (j := rd) dX0_keepExtreme_35 (by assumption) (by first | rfl | omega) (by omega) ((rr rd hrd).1) ?_
      refine v_iload dX0_keepExtreme_36 rfl ?_
      refine v_iald (j := i) dX0_keepExtreme_38 (by assumption) (by first | rfl | omega) (by omega) ?_
      refine v_ist8 dX0_keepExtreme_39 rfl ?_
      refine v_iload_n dX0_keepExtreme_41 rfl ?_
      refine v_iload dX0_keepExtreme_42 rfl ?_
      refine v_iand (z := ((msk s i : Nat) : Int)) dX0_keepExtreme_44 (and_m s hs i (by omega)) ?_
      refine v_if_eq (tgt := 99) dX0_keepExtreme_45 (by decide) (fun h45 => ?_) (fun h45 => ?_)
      · refine v_iinc6 dX0_keepExtreme_99 rfl ?_
        refine v_goto (tgt := 9) dX0_keepExtreme_102 (by decide) ?_
        refine v_fgt2 (ih (i + 1) (by omega) (by omega) _ _ ?_) (fgt_c (Or.inr rfl) (fgt_c (Or.inr rfl) (fgt_c (Or.inr rfl) (fgt_c (Or.inr rfl) (fgt_c (Or.inr rfl) (fgt_c (Or.inr rfl) (fgt_c (Or.inr rfl) (fgt_c (Or.inl rfl) (fgt_c (Or.inl rfl) (fgt_n))))))))))
        show exS (I (c + 1 + 4 + rd)) s m i (extF (I (c + 1 + 4 + rd)) s m i) = _
        rw [hkb]
        unfold exS
        dsimp only
        repeat' split
        all_goals first | rfl | (exfalso; omega)
      · refine v_iload dX0_keepExtreme_48 rfl ?_
        refine v_if_eq (tgt := 74) dX0_keepExtreme_50 (by decide) (fun h50 => ?_) (fun h50 => ?_)
        · refine v_iload dX0_keepExtreme_74 rfl ?_
          refine v_ist4 dX0_keepExtreme_76 rfl ?_
          refine v_iload dX0_keepExtreme_78 rfl ?_
          refine v_ist5 dX0_keepExtreme_80 rfl ?_
          refine v_goto (tgt := 99) dX0_keepExtreme_82 (by decide) ?_
          refine v_iinc6 dX0_keepExtreme_99 rfl ?_
          refine v_goto (tgt := 9) dX0_keepExtreme_102 (by decide) ?_
          refine v_fgt2 (ih (i + 1) (by omega) (by omega) _ _ ?_) (fgt_c (Or.inr rfl) (fgt_c (Or.inr rfl) (fgt_c (Or.inr rfl) (fgt_c (Or.inr rfl) (fgt_c (Or.inr rfl) (fgt_c (Or.inr rfl) (fgt_c (Or.inr rfl) (fgt_c (Or.inl rfl) (fgt_c (Or.inl rfl) (fgt_n))))))))))
          show exS (I (c + 1 + 4 + rd)) s m i (extF (I (c + 1 + 4 + rd)) s m i) = _
          rw [hkb]
          unfold exS
          dsimp only
          repeat' split
          all_goals first | rfl | (exfalso; omega)
        · refine v_iload_n dX0_keepExtreme_53 rfl ?_
          refine v_if_eq (tgt := 67) dX0_keepExtreme_54 (by decide) (fun h54 => ?_) (fun h54 => ?_)
          · refine v_iload dX0_keepExtreme_67 rfl ?_
            refine v_iload dX0_keepExtreme_69 rfl ?_
            refine v_ic_ge (tgt := 85) dX0_keepExtreme_71 (by decide) (fun h71 => ?_) (fun h71 => ?_)
            · refine v_iload dX0_keepExtreme_85 rfl ?_
              refine v_iload dX0_keepExtreme_87 rfl ?_
              refine v_ic_ne (tgt := 99) dX0_keepExtreme_89 (by decide) (fun h89 => ?_) (fun h89 => ?_)
              · refine v_iinc6 dX0_keepExtreme_99 rfl ?_
                refine v_goto (tgt := 9) dX0_keepExtreme_102 (by decide) ?_
                refine v_fgt2 (ih (i + 1) (by omega) (by omega) _ _ ?_) (fgt_c (Or.inr rfl) (fgt_c (Or.inr rfl) (fgt_c (Or.inr rfl) (fgt_c (Or.inr rfl) (fgt_c (Or.inr rfl) (fgt_c (Or.inr rfl) (fgt_c (Or.inr rfl) (fgt_c (Or.inl rfl) (fgt_c (Or.inl rfl) (fgt_n))))))))))
                show exS (I (c + 1 + 4 + rd)) s m i (extF (I (c + 1 + 4 + rd)) s m i) = _
                rw [hkb]
                unfold exS
                dsimp only
                repeat' split
                all_goals first | rfl | (exfalso; omega)
              · refine v_iload dX0_keepExtreme_92 rfl ?_
                refine v_iload dX0_keepExtreme_94 rfl ?_
                refine v_ior (z := ((k ||| 2 ^ i : Nat) : Int)) dX0_keepExtreme_96 (or_b k (by omega) i (by omega)) ?_
                refine v_ist4 dX0_keepExtreme_97 rfl ?_
                refine v_iinc6 dX0_keepExtreme_99 rfl ?_
                refine v_goto (tgt := 9) dX0_keepExtreme_102 (by decide) ?_
                refine v_fgt2 (ih (i + 1) (by omega) (by omega) _ _ ?_) (fgt_c (Or.inr rfl) (fgt_c (Or.inr rfl) (fgt_c (Or.inr rfl) (fgt_c (Or.inr rfl) (fgt_c (Or.inr rfl) (fgt_c (Or.inr rfl) (fgt_c (Or.inr rfl) (fgt_c (Or.inl rfl) (fgt_c (Or.inl rfl) (fgt_n))))))))))
                show exS (I (c + 1 + 4 + rd)) s m i (extF (I (c + 1 + 4 + rd)) s m i) = _
                rw [hkb]
                unfold exS
                dsimp only
                repeat' split
                all_goals first | rfl | (exfalso; omega)
            · refine v_iload dX0_keepExtreme_74 rfl ?_
              refine v_ist4 dX0_keepExtreme_76 rfl ?_
              refine v_iload dX0_keepExtreme_78 rfl ?_
              refine v_ist5 dX0_keepExtreme_80 rfl ?_
              refine v_goto (tgt := 99) dX0_keepExtreme_82 (by decide) ?_
              refine v_iinc6 dX0_keepExtreme_99 rfl ?_
              refine v_goto (tgt := 9) dX0_keepExtreme_102 (by decide) ?_
              refine v_fgt2 (ih (i + 1) (by omega) (by omega) _ _ ?_) (fgt_c (Or.inr rfl) (fgt_c (Or.inr rfl) (fgt_c (Or.inr rfl) (fgt_c (Or.inr rfl) (fgt_c (Or.inr rfl) (fgt_c (Or.inr rfl) (fgt_c (Or.inr rfl) (fgt_c (Or.inl rfl) (fgt_c (Or.inl rfl) (fgt_n))))))))))
              show exS (I (c + 1 + 4 + rd)) s m i (extF (I (c + 1 + 4 + rd)) s m i) = _
              rw [hkb]
              unfold exS
              dsimp only
              repeat' split
              all_goals first | rfl | (exfalso; omega)
          · refine v_iload dX0_keepExtreme_57 rfl ?_
            refine v_iload dX0_keepExtreme_59 rfl ?_
            refine v_ic_le (tgt := 85) dX0_keepExtreme_61 (by decide) (fun h61 => ?_) (fun h61 => ?_)
            · refine v_iload dX0_keepExtreme_85 rfl ?_
              refine v_iload dX0_keepExtreme_87 rfl ?_
              refine v_ic_ne (tgt := 99) dX0_keepExtreme_89 (by decide) (fun h89 => ?_) (fun h89 => ?_)
              · refine v_iinc6 dX0_keepExtreme_99 rfl ?_
                refine v_goto (tgt := 9) dX0_keepExtreme_102 (by decide) ?_
                refine v_fgt2 (ih (i + 1) (by omega) (by omega) _ _ ?_) (fgt_c (Or.inr rfl) (fgt_c (Or.inr rfl) (fgt_c (Or.inr rfl) (fgt_c (Or.inr rfl) (fgt_c (Or.inr rfl) (fgt_c (Or.inr rfl) (fgt_c (Or.inr rfl) (fgt_c (Or.inl rfl) (fgt_c (Or.inl rfl) (fgt_n))))))))))
                show exS (I (c + 1 + 4 + rd)) s m i (extF (I (c + 1 + 4 + rd)) s m i) = _
                rw [hkb]
                unfold exS
                dsimp only
                repeat' split
                all_goals first | rfl | (exfalso; omega)
              · refine v_iload dX0_keepExtreme_92 rfl ?_
                refine v_iload dX0_keepExtreme_94 rfl ?_
                refine v_ior (z := ((k ||| 2 ^ i : Nat) : Int)) dX0_keepExtreme_96 (or_b k (by omega) i (by omega)) ?_
                refine v_ist4 dX0_keepExtreme_97 rfl ?_
                refine v_iinc6 dX0_keepExtreme_99 rfl ?_
                refine v_goto (tgt := 9) dX0_keepExtreme_102 (by decide) ?_
                refine v_fgt2 (ih (i + 1) (by omega) (by omega) _ _ ?_) (fgt_c (Or.inr rfl) (fgt_c (Or.inr rfl) (fgt_c (Or.inr rfl) (fgt_c (Or.inr rfl) (fgt_c (Or.inr rfl) (fgt_c (Or.inr rfl) (fgt_c (Or.inr rfl) (fgt_c (Or.inl rfl) (fgt_c (Or.inl rfl) (fgt_n))))))))))
                show exS (I (c + 1 + 4 + rd)) s m i (extF (I (c + 1 + 4 + rd)) s m i) = _
                rw [hkb]
                unfold exS
                dsimp only
                repeat' split
                all_goals first | rfl | (exfalso; omega)
            · refine v_goto (tgt := 74) dX0_keepExtreme_64 (by decide) ?_
              refine v_iload dX0_keepExtreme_74 rfl ?_
              refine v_ist4 dX0_keepExtreme_76 rfl ?_
              refine v_iload dX0_keepExtreme_78 rfl ?_
              refine v_ist5 dX0_keepExtreme_80 rfl ?_
              refine v_goto (tgt := 99) dX0_keepExtreme_82 (by decide) ?_
              refine v_iinc6 dX0_keepExtreme_99 rfl ?_
              refine v_goto (tgt := 9) dX0_keepExtreme_102 (by decide) ?_
              refine v_fgt2 (ih (i + 1) (by omega) (by omega) _ _ ?_) (fgt_c (Or.inr rfl) (fgt_c (Or.inr rfl) (fgt_c (Or.inr rfl) (fgt_c (Or.inr rfl) (fgt_c (Or.inr rfl) (fgt_c (Or.inr rfl) (fgt_c (Or.inr rfl) (fgt_c (Or.inl rfl) (fgt_c (Or.inl rfl) (fgt_n))))))))))
              show exS (I (c + 1 + 4 + rd)) s m i (extF (I (c + 1 + 4 + rd)) s m i) = _
              rw [hkb]
              unfold exS
              dsimp only
              repeat' split
              all_goals first | rfl | (exfalso; omega)
  refine v_startE hfl rfl (by decide) (Nat.le_of_ble_eq_true rfl) (ls := [some (.ref (c + 14)), some (.int (ii (s : Int))), some (.int (ii (rd : Int))), some (.int (ii m)), none, none, none, none, none]) rfl ?_
  refine v_iconst dX0_keepExtreme_0 ?_
  refine v_ist4 dX0_keepExtreme_1 rfl ?_
  refine v_iconst dX0_keepExtreme_3 ?_
  refine v_ist5 dX0_keepExtreme_4 rfl ?_
  refine v_iconst dX0_keepExtreme_6 ?_
  refine v_ist6 dX0_keepExtreme_7 rfl ?_
  exact L 0 (Nat.zero_le _) 0 0 rfl

set_option maxRecDepth 100000 in
set_option maxHeartbeats 4000000 in
theorem c_firstByLot {l : Launch} {g : GV} {S : SS} {I : II} {X : XX} {c e s n : Nat} {m : Int} (hfl : l.stackTraces = false) (hC : isCnt S c e) (hs : s < 256) (hn : I e 0 = (n : Int)) (hn8 : n ≤ 8) (hm : m = 0 ∨ m = 1) (wl : ∀ k, k < 8 → 0 ≤ I (e + 2) k ∧ I (e + 2) k < 8) : CE l g mX0_firstByLot 0 [.ref (c + 14), .int (ii (s : Int)), .int (ii m)] S I X (some (.int (ii (lotF (I (e + 2)) s m n n 0)))) I := by
  obtain ⟨n0, n1, n2, n3, n4, n5, n6, n6a, n7, n7a, n8, n8a, n9, n9a, n10, n10a, hR, hH, hF, hG, hE, hsp⟩ := id hC
  obtain ⟨k0, k1, k2⟩ := hH
  obtain ⟨y0, y1, y1a, y2, y2a, y3, y3a, y4, y4a, y5, y5a, yr⟩ := id hE
  have L : ∀ i : Nat, i ≤ n → V l g mX0_firstByLot 0 (Zm g (QE (some (.int (ii (lotF (I (e + 2)) s m n (n - i) i)))) S I X)) 0 0 2 [some (.ref (c + 14)), some (.int (ii (s : Int))), some (.int (ii m)), some (.int (ii (i : Int))), none, none] [] S I X := by
    refine loop_up fun i hi ih => ?_
    refine v_iload_n dX0_firstByLot_2 rfl ?_
    refine v_aload_n dX0_firstByLot_3 rfl ?_
    refine v_getr dX0_firstByLot_4 fr_X0_9 (by assumption) (by decide) rfl (by assumption) ?_
    refine v_geti dX0_firstByLot_7 fr_X0_46 (by assumption) (by decide) rfl ?_
    refine v_ic_ge (tgt := 64) dX0_firstByLot_10 (by decide) (fun h10 => ?_) (fun h10 => ?_)
    · refine v_iconst dX0_firstByLot_64 ?_
      exact v_iE dX0_firstByLot_65 rfl (by rw [show n - i = 0 by omega]; rfl) (rfl)
    · have hm : n - i = (n - (i + 1)) + 1 := by omega
      refine v_iload_n dX0_firstByLot_13 rfl ?_
      refine v_if_eq (tgt := 21) dX0_firstByLot_14 (by decide) (fun h14 => ?_) (fun h14 => ?_)
      · refine v_aload_n dX0_firstByLot_21 rfl ?_
        refine v_getr dX0_firstByLot_22 fr_X0_9 (by assumption) (by decide) rfl (by assumption) ?_
        refine v_geti dX0_firstByLot_25 fr_X0_46 (by assumption) (by decide) rfl ?_
        refine v_iconst dX0_firstByLot_28 ?_
        refine v_isub dX0_firstByLot_29 ?_
        refine v_iload_n dX0_firstByLot_30 rfl ?_
        refine v_isub dX0_firstByLot_31 ?_
        refine v_ist4 dX0_firstByLot_32 rfl ?_
        refine v_aload_n dX0_firstByLot_34 rfl ?_
        refine v_getr dX0_firstByLot_35 fr_X0_9 (by assumption) (by decide) rfl (by assumption) ?_
        refine v_getr dX0_firstByLot_38 fr_X0_55 (by assumption) (by decide) rfl (by assumption) ?_
        refine v_iload dX0_firstByLot_41 rfl ?_
        refine v_iald (j := n - 1 - i) dX0_firstByLot_43 (by assumption) (by omega) (by omega) ?_
        have h9 := wl (n - 1 - i) (by omega)
        obtain ⟨q, hq⟩ := Int.eq_ofNat_of_zero_le h9.1
        rw [hq] at h9
        rw [hq]
        refine v_ist5 dX0_firstByLot_44 rfl ?_
        refine v_iload_n dX0_firstByLot_46 rfl ?_
        refine v_iconst dX0_firstByLot_47 ?_
        refine v_iload dX0_firstByLot_48 rfl ?_
        refine v_ishl (z := ((2 ^ q : Nat) : Int)) dX0_firstByLot_50 (shl_b q (by omega)) ?_
        refine v_iand (z := ((msk s q : Nat) : Int)) dX0_firstByLot_51 (and_m s hs q (by omega)) ?_
        have e7 := msk_lt s hs q (by omega)
        refine v_if_eq (tgt := 58) dX0_firstByLot_52 (by decide) (fun h52 => ?_) (fun h52 => ?_)
        · refine v_iinc3 dX0_firstByLot_58 rfl ?_
          refine v_goto (tgt := 2) dX0_firstByLot_61 (by decide) ?_
          rw [show lotF (I (e + 2)) s m n (n - i) i = lotF (I (e + 2)) s m n (n - (i + 1)) (i + 1) by
              rw [hm]
              simp only [lotF, if_pos h14, hq, Int.toNat_natCast]
              exact if_pos ((msk_0 s q).mp h52)]
          exact v_fgt2 (ih (i + 1) (by omega) (by omega)) (fgt_c (Or.inr rfl) (fgt_c (Or.inr rfl) (fgt_c (Or.inr rfl) (fgt_c (Or.inr rfl) (fgt_c (Or.inl rfl) (fgt_c (Or.inl rfl) (fgt_n)))))))
        · refine v_iload dX0_firstByLot_55 rfl ?_
          exact v_iE dX0_firstByLot_57 rfl (by rw [hm]; simp only [lotF, if_pos h14, hq, Int.toNat_natCast]; rw [if_neg (fun e => h52 ((msk_0 s q).mpr e))]) (rfl)
      · refine v_iload_n dX0_firstByLot_17 rfl ?_
        refine v_goto (tgt := 32) dX0_firstByLot_18 (by decide) ?_
        refine v_ist4 dX0_firstByLot_32 rfl ?_
        refine v_aload_n dX0_firstByLot_34 rfl ?_
        refine v_getr dX0_firstByLot_35 fr_X0_9 (by assumption) (by decide) rfl (by assumption) ?_
        refine v_getr dX0_firstByLot_38 fr_X0_55 (by assumption) (by decide) rfl (by assumption) ?_
        refine v_iload dX0_firstByLot_41 rfl ?_
        refine v_iald (j := i) dX0_firstByLot_43 (by assumption) (rfl) (by omega) ?_
        have h9 := wl (i) (by omega)
        obtain ⟨q, hq⟩ := Int.eq_ofNat_of_zero_le h9.1
        rw [hq] at h9
        rw [hq]
        refine v_ist5 dX0_firstByLot_44 rfl ?_
        refine v_iload_n dX0_firstByLot_46 rfl ?_
        refine v_iconst dX0_firstByLot_47 ?_
        refine v_iload dX0_firstByLot_48 rfl ?_
        refine v_ishl (z := ((2 ^ q : Nat) : Int)) dX0_firstByLot_50 (shl_b q (by omega)) ?_
        refine v_iand (z := ((msk s q : Nat) : Int)) dX0_firstByLot_51 (and_m s hs q (by omega)) ?_
        have e7 := msk_lt s hs q (by omega)
        refine v_if_eq (tgt := 58) dX0_firstByLot_52 (by decide) (fun h52 => ?_) (fun h52 => ?_)
        · refine v_iinc3 dX0_firstByLot_58 rfl ?_
          refine v_goto (tgt := 2) dX0_firstByLot_61 (by decide) ?_
          rw [show lotF (I (e + 2)) s m n (n - i) i = lotF (I (e + 2)) s m n (n - (i + 1)) (i + 1) by
              rw [hm]
              simp only [lotF, if_neg h14, hq, Int.toNat_natCast]
              exact if_pos ((msk_0 s q).mp h52)]
          exact v_fgt2 (ih (i + 1) (by omega) (by omega)) (fgt_c (Or.inr rfl) (fgt_c (Or.inr rfl) (fgt_c (Or.inr rfl) (fgt_c (Or.inr rfl) (fgt_c (Or.inl rfl) (fgt_c (Or.inl rfl) (fgt_n)))))))
        · refine v_iload dX0_firstByLot_55 rfl ?_
          exact v_iE dX0_firstByLot_57 rfl (by rw [hm]; simp only [lotF, if_neg h14, hq, Int.toNat_natCast]; rw [if_neg (fun e => h52 ((msk_0 s q).mpr e))]) (rfl)
  refine v_startE hfl rfl (by decide) (Nat.le_of_ble_eq_true rfl) (ls := [some (.ref (c + 14)), some (.int (ii (s : Int))), some (.int (ii m)), none, none, none]) rfl ?_
  refine v_iconst dX0_firstByLot_0 ?_
  refine v_istn3 dX0_firstByLot_1 rfl ?_
  exact L 0 (Nat.zero_le _)

theorem up_c2 {I : II} {h : Nat} {a b c d : Int} : up (up (up (up I h 2 a) h 3 b) h 2 c) h 3 d = up (up I h 2 c) h 3 d := by
  funext x j
  by_cases hx : x = h
  · subst hx
    simp only [up_at]
    by_cases h3 : j = 3
    · simp [h3]
    · by_cases h2 : j = 2 <;> simp [h2, h3]
  · simp only [up_ne hx]
theorem chT_stop {F : Nat → Nat → Int} {nc r s : Nat} {tr m : Int} {i : Nat} (h : pop8 (chT F nc tr r m s i).1 ≤ 1) : ∀ j, chT F nc tr r m s (i + j) = chT F nc tr r m s i
  | 0 => rfl
  | j + 1 => by
    have ih := chT_stop h j
    show chS F nc tr r m (i + j) (chT F nc tr r m s (i + j)) = _
    rw [ih]
    unfold chS
    rw [if_pos h]
theorem chT_lt {F : Nat → Nat → Int} {nc r s : Nat} {tr m : Int} (hn : nc ≤ 8) (hr9 : r < 9) (hv : ∀ k, k < 9 → ∀ c, c < 8 → -2147483648 ≤ F k c ∧ F k c < 2147483648) : ∀ i, i ≤ r → (chT F nc tr r m s i).1 < 256
  | 0, _ => (extF_ok (hv r hr9) nc hn).1
  | i + 1, h => by
    have ih := chT_lt (s := s) (tr := tr) (m := m) hn hr9 hv i (by omega)
    show (chS F nc tr r m i (chT F nc tr r m s i)).1 < 256
    unfold chS
    have hk : (if tr = 0 then r - 1 - i else i) < 9 := by split <;> omega
    generalize (if tr = 0 then r - 1 - i else i) = k at hk
    split
    · exact ih
    · split
      · exact ih
      · exact (extF_ok (hv k hk) nc hn).1
/-- what a choice leaves in the chooser -/
def chM (I : II) (h : Nat) (q : Nat × Int × Int) : II := if pop8 q.1 ≤ 1 then up (up I h 2 q.2.1) h 3 q.2.2 else up (up I h 2 5) h 3 (-1)

theorem pop8_le (s : Nat) : pop8 s ≤ 8 := by unfold pop8; omega

set_option maxRecDepth 100000 in
set_option maxHeartbeats 4000000 in
theorem c_choose {l : Launch} {g : GV} {S : SS} {I : II} {X : XX} {c e s r n : Nat} {m : Int} (hfl : l.stackTraces = false) (hC : isCnt S c e) (hs : s < 256) (hr9 : r < 9) (hn : I e 0 = (n : Int)) (hn8 : n ≤ 8) (hm : m = 0 ∨ m = 1) (hv : ∀ k, k < 9 → ∀ i, i < 8 → -2147483648 ≤ I (c + 1 + 4 + k) i ∧ I (c + 1 + 4 + k) i < 2147483648) (wl : ∀ k, k < 8 → 0 ≤ I (e + 2) k ∧ I (e + 2) k < 8) (ws : 0 ≤ I (e + 1) 2 ∧ I (e + 1) 2 ≤ 1) : CE l g mX0_choose 1 [.ref (c + 14), .int (ii (s : Int)), .int (ii (r : Int)), .int (ii m)] S I X (some (.int (ii (lotF (I (e + 2)) (chT (fun k => I (c + 1 + 4 + k)) n (I (e + 1) 2) r m s r).1 m n n 0)))) (chM I (c + 14) (chT (fun k => I (c + 1 + 4 + k)) n (I (e + 1) 2) r m s r)) := by
  obtain ⟨n0, n1, n2, n3, n4, n5, n6, n6a, n7, n7a, n8, n8a, n9, n9a, n10, n10a, hR, hH, hF, hG, hE, hsp⟩ := id hC
  obtain ⟨k0, k1, k2⟩ := hH
  obtain ⟨y0, y1, y1a, y2, y2a, y3, y3a, y4, y4a, y5, y5a, yr⟩ := id hE
  have hJ : ∀ (a b : Int) (x : Nat), x ≠ c + 14 → up (up I (c + 14) 2 a) (c + 14) 3 b x = I x := fun a b x hx => by rw [up_ne hx, up_ne hx]
  have L : ∀ i : Nat, i ≤ r → ∀ lf : Int, ((lf = 1 ∧ I (e + 1) 2 = 0) ∨ (lf = 0 ∧ ¬ I (e + 1) 2 = 0)) → ∀ (q1 : Nat) (q2 q3 : Int), chT (fun k => I (c + 1 + 4 + k)) n (I (e + 1) 2) r m s i = (q1, q2, q3) → V l g mX0_choose 1 (Zm g (QE (some (.int (ii (lotF (I (e + 2)) (chT (fun k => I (c + 1 + 4 + k)) n (I (e + 1) 2) r m s r).1 m n n 0)))) S (chM I (c + 14) (chT (fun k => I (c + 1 + 4 + k)) n (I (e + 1) 2) r m s r)) X)) 0 0 41 [some (.ref (c + 14)), some (.int (ii (s : Int))), some (.int (ii (r : Int))), some (.int (ii m)), some (.int (ii (q1 : Int))), some (.int (ii lf)), some (.int (ii (i : Int))), none, none] [] S (up (up I (c + 14) 2 q2) (c + 14) 3 q3) X := by
    refine loop_up fun i hi ih => ?_
    intro lf hlf q1 q2 q3 hq
    have hq1 := chT_lt (F := (fun k => I (c + 1 + 4 + k))) (s := s) (tr := I (e + 1) 2) (m := m) hn8 hr9 hv i hi
    rw [hq] at hq1
    dsimp only at hq1
    refine v_iload dX0_choose_41 rfl ?_
    refine v_iload_n dX0_choose_43 rfl ?_
    refine v_ic_ge (tgt := 113) dX0_choose_44 (by decide) (fun h44 => ?_) (fun h44 => ?_)
    · have hend : chT (fun k => I (c + 1 + 4 + k)) n (I (e + 1) 2) r m s r = (q1, q2, q3) := by
        rcases Nat.lt_or_ge i r with h | h
        · have h5 := chT_stop (F := (fun k => I (c + 1 + 4 + k))) (nc := n) (r := r) (s := s) (tr := I (e + 1) 2) (m := m) (i := i) (by rw [hq]; dsimp only; omega) (r - i)
          rw [show i + (r - i) = r by omega, hq] at h5
          exact h5
        · rw [← hq, show i = r by omega]
      rw [hend]
      refine v_iload dX0_choose_113 rfl ?_
      refine v_cS1 dX0_choose_115 lk_X0_36 (c_bitCount hfl (by omega)) (by decide) (Nat.le_of_ble_eq_true rfl) ?_ rfl
      have hp8 := pop8_le q1
      refine v_iconst dX0_choose_118 ?_
      refine v_ic_le (tgt := 132) dX0_choose_119 (by decide) (fun h119 => ?_) (fun h119 => ?_)
      · refine v_aload_n dX0_choose_132 rfl ?_
        refine v_iload dX0_choose_133 rfl ?_
        refine v_iload_n dX0_choose_135 rfl ?_
        try rw [up_c2]
        refine v_cV2 dX0_choose_136 lk_X0_42 (by assumption) (by decide) rfl (c_firstByLot hfl hC (by omega) (by rw [hJ _ _ _ (by omega)]; exact hn) hn8 hm (by rw [hJ _ _ _ (by omega)]; exact wl)) (by decide) (Nat.le_of_ble_eq_true rfl) ?_ rfl
        rw [hJ _ _ _ (by omega)]
        exact v_iE dX0_choose_139 rfl (rfl) (by unfold chM; dsimp only; first | exact (if_pos (by omega)).symm | exact (if_neg (by omega)).symm)
      · refine v_aload_n dX0_choose_122 rfl ?_
        refine v_iconst dX0_choose_123 ?_
        refine v_puti dX0_choose_124 fr_X0_23 (by assumption) (by decide) rfl ?_
        refine v_aload_n dX0_choose_127 rfl ?_
        refine v_iconst dX0_choose_128 ?_
        refine v_puti dX0_choose_129 fr_X0_27 (by assumption) (by decide) rfl ?_
        refine v_aload_n dX0_choose_132 rfl ?_
        refine v_iload dX0_choose_133 rfl ?_
        refine v_iload_n dX0_choose_135 rfl ?_
        try rw [up_c2]
        refine v_cV2 dX0_choose_136 lk_X0_42 (by assumption) (by decide) rfl (c_firstByLot hfl hC (by omega) (by rw [hJ _ _ _ (by omega)]; exact hn) hn8 hm (by rw [hJ _ _ _ (by omega)]; exact wl)) (by decide) (Nat.le_of_ble_eq_true rfl) ?_ rfl
        rw [hJ _ _ _ (by omega)]
        exact v_iE dX0_choose_139 rfl (rfl) (by unfold chM; dsimp only; first | exact (if_pos (by omega)).symm | exact (if_neg (by omega)).symm)
    · refine v_iload dX0_choose_47 rfl ?_
      refine v_cS1 dX0_choose_49 lk_X0_36 (c_bitCount hfl (by omega)) (by decide) (Nat.le_of_ble_eq_true rfl) ?_ rfl
      have hp8 := pop8_le q1
      refine v_iconst dX0_choose_52 ?_
      refine v_ic_le (tgt := 113) dX0_choose_53 (by decide) (fun h53 => ?_) (fun h53 => ?_)
      · have hend : chT (fun k => I (c + 1 + 4 + k)) n (I (e + 1) 2) r m s r = (q1, q2, q3) := by
          rcases Nat.lt_or_ge i r with h | h
          · have h5 := chT_stop (F := (fun k => I (c + 1 + 4 + k))) (nc := n) (r := r) (s := s) (tr := I (e + 1) 2) (m := m) (i := i) (by rw [hq]; dsimp only; omega) (r - i)
            rw [show i + (r - i) = r by omega, hq] at h5
            exact h5
          · rw [← hq, show i = r by omega]
        rw [hend]
        refine v_iload dX0_choose_113 rfl ?_
        refine v_cS1 dX0_choose_115 lk_X0_36 (c_bitCount hfl (by omega)) (by decide) (Nat.le_of_ble_eq_true rfl) ?_ rfl
        have hp8 := pop8_le q1
        refine v_iconst dX0_choose_118 ?_
        refine v_ic_le (tgt := 132) dX0_choose_119 (by decide) (fun h119 => ?_) (fun h119 => ?_)
        · refine v_aload_n dX0_choose_132 rfl ?_
          refine v_iload dX0_choose_133 rfl ?_
          refine v_iload_n dX0_choose_135 rfl ?_
          try rw [up_c2]
          refine v_cV2 dX0_choose_136 lk_X0_42 (by assumption) (by decide) rfl (c_firstByLot hfl hC (by omega) (by rw [hJ _ _ _ (by omega)]; exact hn) hn8 hm (by rw [hJ _ _ _ (by omega)]; exact wl)) (by decide) (Nat.le_of_ble_eq_true rfl) ?_ rfl
          rw [hJ _ _ _ (by omega)]
          exact v_iE dX0_choose_139 rfl (rfl) (by unfold chM; dsimp only; first | exact (if_pos (by omega)).symm | exact (if_neg (by omega)).symm)
        · refine v_aload_n dX0_choose_122 rfl ?_
          refine v_iconst dX0_choose_123 ?_
          refine v_puti dX0_choose_124 fr_X0_23 (by assumption) (by decide) rfl ?_
          refine v_aload_n dX0_choose_127 rfl ?_
          refine v_iconst dX0_choose_128 ?_
          refine v_puti dX0_choose_129 fr_X0_27 (by assumption) (by decide) rfl ?_
          refine v_aload_n dX0_choose_132 rfl ?_
          refine v_iload dX0_choose_133 rfl ?_
          refine v_iload_n dX0_choose_135 rfl ?_
          try rw [up_c2]
          refine v_cV2 dX0_choose_136 lk_X0_42 (by assumption) (by decide) rfl (c_firstByLot hfl hC (by omega) (by rw [hJ _ _ _ (by omega)]; exact hn) hn8 hm (by rw [hJ _ _ _ (by omega)]; exact wl)) (by decide) (Nat.le_of_ble_eq_true rfl) ?_ rfl
          rw [hJ _ _ _ (by omega)]
          exact v_iE dX0_choose_139 rfl (rfl) (by unfold chM; dsimp only; first | exact (if_pos (by omega)).symm | exact (if_neg (by omega)).symm)
      · refine v_iload dX0_choose_56 rfl ?_
        refine v_if_eq (tgt := 70) dX0_choose_58 (by decide) (fun h58 => ?_) (fun h58 => ?_)
        · have ht : ¬ I (e + 1) 2 = 0 := by omega
          have hk9 := extF_ok (s := q1) (m := m) (hv i (by omega)) n hn8
          refine v_iload dX0_choose_70 rfl ?_
          refine v_ist7 dX0_choose_72 rfl ?_
          refine v_aload_n dX0_choose_74 rfl ?_
          refine v_iload dX0_choose_75 rfl ?_
          refine v_iload dX0_choose_77 rfl ?_
          refine v_iload_n dX0_choose_79 rfl ?_
          refine v_cV3 dX0_choose_80 lk_X0_19 (by assumption) (by decide) rfl (c_keepExtreme hfl hC (by omega) (by omega) (by rw [hJ _ _ _ (by omega)]; exact hn) hn8 hm (by rw [hJ _ _ _ (by omega)]; exact hv _ (by omega))) (by decide) (Nat.le_of_ble_eq_true rfl) ?_ rfl
          rw [hJ _ _ _ (by omega)]
          refine v_ist8 dX0_choose_83 rfl ?_
          refine v_iload dX0_choose_85 rfl ?_
          refine v_iload dX0_choose_87 rfl ?_
          refine v_ic_eq (tgt := 107) dX0_choose_89 (by decide) (fun h89 => ?_) (fun h89 => ?_)
          · refine v_iinc6 dX0_choose_107 rfl ?_
            refine v_goto (tgt := 41) dX0_choose_110 (by decide) ?_
            try rw [up_c2]
            refine v_fgt2 (ih (i + 1) (by omega) (by omega) lf hlf _ _ _ ?_) (fgt_c (Or.inr rfl) (fgt_c (Or.inr rfl) (fgt_c (Or.inr rfl) (fgt_c (Or.inr rfl) (fgt_c (Or.inr rfl) (fgt_c (Or.inr rfl) (fgt_c (Or.inr rfl) (fgt_c (Or.inl rfl) (fgt_c (Or.inl rfl) (fgt_n))))))))))
            show chS (fun k => I (c + 1 + 4 + k)) n (I (e + 1) 2) r m i (chT (fun k => I (c + 1 + 4 + k)) n (I (e + 1) 2) r m s i) = _
            rw [hq]
            unfold chS
            dsimp only
            rw [if_neg (show ¬ pop8 q1 ≤ 1 by omega)]
            first | simp only [if_pos ht] | simp only [if_neg ht]
            first | exact if_pos (by omega) | exact if_neg (by omega)
          · refine v_iload dX0_choose_92 rfl ?_
            refine v_ist4 dX0_choose_94 rfl ?_
            refine v_aload_n dX0_choose_96 rfl ?_
            refine v_iconst dX0_choose_97 ?_
            refine v_puti dX0_choose_98 fr_X0_23 (by assumption) (by decide) rfl ?_
            refine v_aload_n dX0_choose_101 rfl ?_
            refine v_iload dX0_choose_102 rfl ?_
            refine v_puti dX0_choose_104 fr_X0_27 (by assumption) (by decide) rfl ?_
            refine v_iinc6 dX0_choose_107 rfl ?_
            refine v_goto (tgt := 41) dX0_choose_110 (by decide) ?_
            try rw [up_c2]
            refine v_fgt2 (ih (i + 1) (by omega) (by omega) lf hlf _ _ _ ?_) (fgt_c (Or.inr rfl) (fgt_c (Or.inr rfl) (fgt_c (Or.inr rfl) (fgt_c (Or.inr rfl) (fgt_c (Or.inr rfl) (fgt_c (Or.inr rfl) (fgt_c (Or.inr rfl) (fgt_c (Or.inl rfl) (fgt_c (Or.inl rfl) (fgt_n))))))))))
            show chS (fun k => I (c + 1 + 4 + k)) n (I (e + 1) 2) r m i (chT (fun k => I (c + 1 + 4 + k)) n (I (e + 1) 2) r m s i) = _
            rw [hq]
            unfold chS
            dsimp only
            rw [if_neg (show ¬ pop8 q1 ≤ 1 by omega)]
            first | simp only [if_pos ht] | simp only [if_neg ht]
            first | exact if_pos (by omega) | exact if_neg (by omega)
        · have ht : I (e + 1) 2 = 0 := by omega
          refine v_iload_n dX0_choose_61 rfl ?_
          refine v_iconst dX0_choose_62 ?_
          refine v_isub dX0_choose_63 ?_
          refine v_iload dX0_choose_64 rfl ?_
          refine v_isub dX0_choose_66 ?_
          have hk9 := extF_ok (s := q1) (m := m) (hv (r - 1 - i) (by omega)) n hn8
          rw [show (r : Int) - 1 - (i : Int) = ((r - 1 - i : Nat) : Int) by omega]
          refine v_goto (tgt := 72) dX0_choose_67 (by decide) ?_
          refine v_ist7 dX0_choose_72 rfl ?_
          refine v_aload_n dX0_choose_74 rfl ?_
          refine v_iload dX0_choose_75 rfl ?_
          refine v_iload dX0_choose_77 rfl ?_
          refine v_iload_n dX0_choose_79 rfl ?_
          refine v_cV3 dX0_choose_80 lk_X0_19 (by assumption) (by decide) rfl (c_keepExtreme hfl hC (by omega) (by omega) (by rw [hJ _ _ _ (by omega)]; exact hn) hn8 hm (by rw [hJ _ _ _ (by omega)]; exact hv _ (by omega))) (by decide) (Nat.le_of_ble_eq_true rfl) ?_ rfl
          rw [hJ _ _ _ (by omega)]
          refine v_ist8 dX0_choose_83 rfl ?_
          refine v_iload dX0_choose_85 rfl ?_
          refine v_iload dX0_choose_87 rfl ?_
          refine v_ic_eq (tgt := 107) dX0_choose_89 (by decide) (fun h89 => ?_) (fun h89 => ?_)
          · refine v_iinc6 dX0_choose_107 rfl ?_
            refine v_goto (tgt := 41) dX0_choose_110 (by decide) ?_
            try rw [up_c2]
            refine v_fgt2 (ih (i + 1) (by omega) (by omega) lf hlf _ _ _ ?_) (fgt_c (Or.inr rfl) (fgt_c (Or.inr rfl) (fgt_c (Or.inr rfl) (fgt_c (Or.inr rfl) (fgt_c (Or.inr rfl) (fgt_c (Or.inr rfl) (fgt_c (Or.inr rfl) (fgt_c (Or.inl rfl) (fgt_c (Or.inl rfl) (fgt_n))))))))))
            show chS (fun k => I (c + 1 + 4 + k)) n (I (e + 1) 2) r m i (chT (fun k => I (c + 1 + 4 + k)) n (I (e + 1) 2) r m s i) = _
            rw [hq]
            unfold chS
            dsimp only
            rw [if_neg (show ¬ pop8 q1 ≤ 1 by omega)]
            first | simp only [if_pos ht] | simp only [if_neg ht]
            first | exact if_pos (by omega) | exact if_neg (by omega)
          · refine v_iload dX0_choose_92 rfl ?_
            refine v_ist4 dX0_choose_94 rfl ?_
            refine v_aload_n dX0_choose_96 rfl ?_
            refine v_iconst dX0_choose_97 ?_
            refine v_puti dX0_choose_98 fr_X0_23 (by assumption) (by decide) rfl ?_
            refine v_aload_n dX0_choose_101 rfl ?_
            refine v_iload dX0_choose_102 rfl ?_
            refine v_puti dX0_choose_104 fr_X0_27 (by assumption) (by decide) rfl ?_
            refine v_iinc6 dX0_choose_107 rfl ?_
            refine v_goto (tgt := 41) dX0_choose_110 (by decide) ?_
            try rw [up_c2]
            refine v_fgt2 (ih (i + 1) (by omega) (by omega) lf hlf _ _ _ ?_) (fgt_c (Or.inr rfl) (fgt_c (Or.inr rfl) (fgt_c (Or.inr rfl) (fgt_c (Or.inr rfl) (fgt_c (Or.inr rfl) (fgt_c (Or.inr rfl) (fgt_c (Or.inr rfl) (fgt_c (Or.inl rfl) (fgt_c (Or.inl rfl) (fgt_n))))))))))
            show chS (fun k => I (c + 1 + 4 + k)) n (I (e + 1) 2) r m i (chT (fun k => I (c + 1 + 4 + k)) n (I (e + 1) 2) r m s i) = _
            rw [hq]
            unfold chS
            dsimp only
            rw [if_neg (show ¬ pop8 q1 ≤ 1 by omega)]
            first | simp only [if_pos ht] | simp only [if_neg ht]
            first | exact if_pos (by omega) | exact if_neg (by omega)
  refine v_startE hfl rfl (by decide) (Nat.le_of_ble_eq_true rfl) (ls := [some (.ref (c + 14)), some (.int (ii (s : Int))), some (.int (ii (r : Int))), some (.int (ii m)), none, none, none, none, none]) rfl ?_
  refine v_aload_n dX0_choose_0 rfl ?_
  refine v_iload_n dX0_choose_1 rfl ?_
  refine v_iload_n dX0_choose_2 rfl ?_
  refine v_iload_n dX0_choose_3 rfl ?_
  refine v_cV3 dX0_choose_4 lk_X0_19 (by assumption) (by decide) rfl (c_keepExtreme hfl hC hs hr9 hn hn8 hm (hv r hr9)) (by decide) (Nat.le_of_ble_eq_true rfl) ?_ rfl
  refine v_ist4 dX0_choose_7 rfl ?_
  refine v_aload_n dX0_choose_9 rfl ?_
  refine v_iconst dX0_choose_10 ?_
  refine v_puti dX0_choose_11 fr_X0_23 (by assumption) (by decide) rfl ?_
  refine v_aload_n dX0_choose_14 rfl ?_
  refine v_iconst dX0_choose_15 ?_
  refine v_puti dX0_choose_16 fr_X0_27 (by assumption) (by decide) rfl ?_
  refine v_aload_n dX0_choose_19 rfl ?_
  refine v_getr dX0_choose_20 fr_X0_9 (by assumption) (by decide) rfl (by assumption) ?_
  refine v_getr dX0_choose_23 fr_X0_30 (by assumption) (by decide) rfl (by assumption) ?_
  refine v_iconst dX0_choose_26 ?_
  refine v_iald (j := 2) dX0_choose_27 (by assumption) (by first | rfl | omega) (by omega) ?_
  rw [hJ 3 (-1) (e + 1) (by omega)]
  refine v_if_ne (tgt := 35) dX0_choose_28 (by decide) (fun h28 => ?_) (fun h28 => ?_)
  · refine v_iconst dX0_choose_35 ?_
    refine v_ist5 dX0_choose_36 rfl ?_
    refine v_iconst dX0_choose_38 ?_
    refine v_ist6 dX0_choose_39 rfl ?_
    exact v_fgt2 (L 0 (Nat.zero_le _) _ (by first | exact Or.inl ⟨rfl, by omega⟩ | exact Or.inr ⟨rfl, by omega⟩) _ _ _ rfl) (fgt_c (Or.inr rfl) (fgt_c (Or.inr rfl) (fgt_c (Or.inr rfl) (fgt_c (Or.inr rfl) (fgt_c (Or.inr rfl) (fgt_c (Or.inr rfl) (fgt_c (Or.inr rfl) (fgt_c (Or.inl rfl) (fgt_c (Or.inl rfl) (fgt_n))))))))))
  · refine v_iconst dX0_choose_31 ?_
    refine v_goto (tgt := 36) dX0_choose_32 (by decide) ?_
    refine v_ist5 dX0_choose_36 rfl ?_
    refine v_iconst dX0_choose_38 ?_
    refine v_ist6 dX0_choose_39 rfl ?_
    exact v_fgt2 (L 0 (Nat.zero_le _) _ (by first | exact Or.inl ⟨rfl, by omega⟩ | exact Or.inr ⟨rfl, by omega⟩) _ _ _ rfl) (fgt_c (Or.inr rfl) (fgt_c (Or.inr rfl) (fgt_c (Or.inr rfl) (fgt_c (Or.inr rfl) (fgt_c (Or.inr rfl) (fgt_c (Or.inr rfl) (fgt_c (Or.inr rfl) (fgt_c (Or.inl rfl) (fgt_c (Or.inl rfl) (fgt_n))))))))))
