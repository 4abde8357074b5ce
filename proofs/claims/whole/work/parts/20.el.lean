/-! ELECTION: its readings -/
theorem shr_b : ∀ s : Nat, s < 256 → ∀ c : Nat, c < 8 → ii ((s : Nat) : Int) >>> (ii ((c : Nat) : Int) &&& 31) = ii ((s / 2 ^ c : Nat) : Int) := by decide +kernel
theorem and_b : ∀ s : Nat, s < 256 → ii ((s : Nat) : Int) &&& ii 1 = ii ((s % 2 : Nat) : Int) := by decide +kernel
/-- a candidate's bit -/
def btI (s c : Nat) : Int := ((s / 2 ^ c % 2 : Nat) : Int)
theorem btI_01 (s c : Nat) : btI s c = 0 ∨ btI s c = 1 := by unfold btI; omega
/-- an election's cells hold what they may -/
def WfE (I : II) (e : Nat) : Prop := 2 ≤ I e 0 ∧ I e 0 ≤ 8 ∧ 0 ≤ I e 4 ∧ I e 4 ≤ 25 ∧ 0 ≤ I e 2 ∧ I e 2 < 256 ∧ (∀ p, p < 25 → 0 ≤ I (e + 3) p ∧ I (e + 3) p ≤ 99) ∧ (∀ p, p < 25 → 0 ≤ I (e + 4) p ∧ I (e + 4) p ≤ 8) ∧ (∀ p k, p < 25 → k < 8 → 0 ≤ I (e + 6 + p) k ∧ I (e + 6 + p) k < 8) ∧ (∀ k, k < 8 → 0 ≤ I (e + 2) k ∧ I (e + 2) k < 8) ∧
  (0 ≤ I (e + 1) 0 ∧ I (e + 1) 0 ≤ 3) ∧ (0 ≤ I (e + 1) 1 ∧ I (e + 1) 1 ≤ 1) ∧ (0 ≤ I (e + 1) 2 ∧ I (e + 1) 2 ≤ 1) ∧ 1 ≤ I (e + 1) 3 ∧ I (e + 1) 3 ≤ 7

set_option maxRecDepth 100000 in
set_option maxHeartbeats 4000000 in
theorem c_contains {l : Launch} {g : GV} {S : SS} {I : II} {X : XX} (hfl : l.stackTraces = false) {s c : Nat} (hs : s < 256) (hc : c < 8) : CE l g mX8_contains 0 [.int (ii (s : Int)), .int (ii (c : Int))] S I X (some (.int (ii (btI s c)))) I := by
  refine v_startE hfl rfl (by decide) (Nat.le_of_ble_eq_true rfl) (ls := [some (.int (ii (s : Int))), some (.int (ii (c : Int)))]) rfl ?_
  refine v_iload_n dX8_contains_0 rfl ?_
  refine v_iload_n dX8_contains_1 rfl ?_
  refine v_ishr (z := ((s / 2 ^ c : Nat) : Int)) dX8_contains_2 (shr_b s hs c hc) ?_
  refine v_iconst dX8_contains_3 ?_
  refine v_iand (z := ((s / 2 ^ c % 2 : Nat) : Int)) dX8_contains_4 (and_b _ (Nat.lt_of_le_of_lt (Nat.div_le_self _ _) hs)) ?_
  refine v_if_eq (tgt := 12) dX8_contains_5 (by decide) (fun h5 => ?_) (fun h5 => ?_)
  · refine v_iconst dX8_contains_12 ?_
    exact v_zE dX8_contains_13 rfl (by first | exact Or.inl rfl | exact Or.inr rfl | omega) (by unfold btI; omega) (rfl)
  · refine v_iconst dX8_contains_8 ?_
    refine v_goto (tgt := 13) dX8_contains_9 (by decide) ?_
    exact v_zE dX8_contains_13 rfl (by first | exact Or.inl rfl | exact Or.inr rfl | omega) (by unfold btI; omega) (rfl)

set_option maxRecDepth 100000 in
set_option maxHeartbeats 4000000 in
theorem c_papers {l : Launch} {g : GV} {S : SS} {I : II} {X : XX} {e : Nat} (hfl : l.stackTraces = false) (hE : isEl S e) (hW : WfE I e) : CE l g mX2_papers 0 [.ref e] S I X (some (.int (ii (sumTo (I (e + 3)) (I e 4).toNat)))) I := by
  obtain ⟨y0, y1, y1a, y2, y2a, y3, y3a, y4, y4a, y5, y5a, yr⟩ := id hE
  obtain ⟨w0, w1, w2, w3, -⟩ := hW
  obtain ⟨n, hn⟩ := Int.eq_ofNat_of_zero_le w2
  rw [show (I e 4).toNat = n by rw [hn]; rfl]
  have L : ∀ p : Nat, p ≤ n → V l g mX2_papers 0 (Zm g (QE (some (.int (ii (sumTo (I (e + 3)) n)))) S I X)) 0 0 4 [some (.ref e), some (.int (ii (sumTo (I (e + 3)) p))), some (.int (ii (p : Int)))] [] S I X := by
    refine loop_up fun p hp ih => ?_
    refine v_iload_n dX2_papers_4 rfl ?_
    refine v_aload_n dX2_papers_5 rfl ?_
    refine v_geti dX2_papers_6 fr_X2_40 (by assumption) (by decide) rfl ?_
    refine v_ic_ge (tgt := 27) dX2_papers_9 (by decide) (fun h9 => ?_) (fun h9 => ?_)
    · obtain rfl : p = n := by omega
      refine v_iload_n dX2_papers_27 rfl ?_
      exact v_iE dX2_papers_28 rfl (rfl) (rfl)
    · refine v_iload_n dX2_papers_12 rfl ?_
      refine v_aload_n dX2_papers_13 rfl ?_
      refine v_getr dX2_papers_14 fr_X2_18 (by assumption) (by decide) rfl (by assumption) ?_
      refine v_iload_n dX2_papers_17 rfl ?_
      refine v_iald dX2_papers_18 (by assumption) rfl (by omega) ?_
      refine v_iadd dX2_papers_19 ?_
      refine v_istn1 dX2_papers_20 rfl ?_
      refine v_iinc2 dX2_papers_21 rfl ?_
      refine v_goto (tgt := 4) dX2_papers_24 (by decide) ?_
      exact ih (p + 1) (by omega) (by omega)
  refine v_startE hfl rfl (by decide) (Nat.le_of_ble_eq_true rfl) (ls := [some (.ref e), none, none]) rfl ?_
  refine v_iconst dX2_papers_0 ?_
  refine v_istn1 dX2_papers_1 rfl ?_
  refine v_iconst dX2_papers_2 ?_
  refine v_istn2 dX2_papers_3 rfl ?_
  exact L 0 (Nat.zero_le _)

/-- whether a ranking sets c before o: 1 or 0 -/
def prefG (f : Nat → Int) (c o : Int) : Nat → Nat → Int
  | 0, _ => 0
  | m + 1, k => if f k = o then 0 else if f k = c then 1 else prefG f c o m (k + 1)
theorem prefG_01 (f : Nat → Int) (c o : Int) : ∀ m k, prefG f c o m k = 0 ∨ prefG f c o m k = 1
  | 0, _ => Or.inl rfl
  | m + 1, k => by
    unfold prefG
    split
    · exact Or.inl rfl
    · split
      · exact Or.inr rfl
      · exact prefG_01 f c o m (k + 1)

set_option maxRecDepth 100000 in
set_option maxHeartbeats 4000000 in
theorem c_prefers {l : Launch} {g : GV} {S : SS} {I : II} {X : XX} {e p : Nat} {c o : Int} (hfl : l.stackTraces = false) (hE : isEl S e) (hW : WfE I e) (hp : p < 25) (hc : 0 ≤ c ∧ c < 8) (ho : 0 ≤ o ∧ o < 8) : CE l g mX2_prefers 0 [.ref e, .int (ii (p : Int)), .int (ii c), .int (ii o)] S I X (some (.int (ii (prefG (I (e + 6 + p)) c o (I (e + 4) p).toNat 0)))) I := by
  obtain ⟨y0, y1, y1a, y2, y2a, y3, y3a, y4, y4a, y5, y5a, yr⟩ := id hE
  obtain ⟨w0, w1, w2, w3, w4, w5, w6, w7, w8, -⟩ := hW
  have w7p := w7 p hp
  have yq := (yr p hp).2
  obtain ⟨n, hn⟩ := Int.eq_ofNat_of_zero_le w7p.1
  rw [show (I (e + 4) p).toNat = n by rw [hn]; rfl]
  have L : ∀ k : Nat, k ≤ n → V l g mX2_prefers 0 (Zm g (QE (some (.int (ii (prefG (I (e + 6 + p)) c o (n - k) k)))) S I X)) 0 0 3 [some (.ref e), some (.int (ii (p : Int))), some (.int (ii c)), some (.int (ii o)), some (.int (ii (k : Int)))] [] S I X := by
    refine loop_up fun k hk ih => ?_
    refine v_iload dX2_prefers_3 rfl ?_
    refine v_aload_n dX2_prefers_5 rfl ?_
    refine v_getr dX2_prefers_6 fr_X2_21 (by assumption) (by decide) rfl (by assumption) ?_
    refine v_iload_n dX2_prefers_9 rfl ?_
    refine v_iald (j := p) dX2_prefers_10 (by assumption) (by first | rfl | omega) (by omega) ?_
    refine v_ic_ge (tgt := 50) dX2_prefers_11 (by decide) (fun h11 => ?_) (fun h11 => ?_)
    · refine v_iconst dX2_prefers_50 ?_
      exact v_zE dX2_prefers_51 rfl (by first | exact Or.inl rfl | exact Or.inr rfl | omega) (by rw [show n - k = 0 by omega]; rfl) (rfl)
    · have hr := w8 p k hp (by omega)
      have hm : n - k = (n - (k + 1)) + 1 := by omega
      refine v_aload_n dX2_prefers_14 rfl ?_
      refine v_getr dX2_prefers_15 fr_X2_26 (by assumption) (by decide) rfl (by assumption) ?_
      refine v_iload_n dX2_prefers_18 rfl ?_
      refine v_aald22 (j := p) dX2_prefers_19 (by assumption) (by first | rfl | omega) (by omega) ((yr p hp).1) ?_
      refine v_iload dX2_prefers_20 rfl ?_
      refine v_iald (j := k) dX2_prefers_22 (by assumption) (by first | rfl | omega) (by omega) ?_
      refine v_iload_n dX2_prefers_23 rfl ?_
      refine v_ic_ne (tgt := 29) dX2_prefers_24 (by decide) (fun h24 => ?_) (fun h24 => ?_)
      · refine v_aload_n dX2_prefers_29 rfl ?_
        refine v_getr dX2_prefers_30 fr_X2_26 (by assumption) (by decide) rfl (by assumption) ?_
        refine v_iload_n dX2_prefers_33 rfl ?_
        refine v_aald22 (j := p) dX2_prefers_34 (by assumption) (by first | rfl | omega) (by omega) ((yr p hp).1) ?_
        refine v_iload dX2_prefers_35 rfl ?_
        refine v_iald (j := k) dX2_prefers_37 (by assumption) (by first | rfl | omega) (by omega) ?_
        refine v_iload_n dX2_prefers_38 rfl ?_
        refine v_ic_ne (tgt := 44) dX2_prefers_39 (by decide) (fun h39 => ?_) (fun h39 => ?_)
        · refine v_iinc4 dX2_prefers_44 rfl ?_
          refine v_goto (tgt := 3) dX2_prefers_47 (by decide) ?_
          have q := ih (k + 1) (by omega) (by omega)
          rw [show prefG (I (e + 6 + p)) c o (n - k) k = prefG (I (e + 6 + p)) c o (n - (k + 1)) (k + 1) by rw [hm]; exact (if_neg h24).trans (if_neg h39)]
          exact q
        · refine v_iconst dX2_prefers_42 ?_
          exact v_zE dX2_prefers_43 rfl (by first | exact Or.inl rfl | exact Or.inr rfl | omega) (by rw [hm]; unfold prefG; rw [if_neg h24, if_pos h39]) (rfl)
      · refine v_iconst dX2_prefers_27 ?_
        exact v_zE dX2_prefers_28 rfl (by first | exact Or.inl rfl | exact Or.inr rfl | omega) (by rw [hm]; unfold prefG; rw [if_pos h24]) (rfl)
  refine v_startE hfl rfl (by decide) (Nat.le_of_ble_eq_true rfl) (ls := [some (.ref e), some (.int (ii (p : Int))), some (.int (ii c)), some (.int (ii o)), none]) rfl ?_
  refine v_iconst dX2_prefers_0 ?_
  refine v_ist4 dX2_prefers_1 rfl ?_
  exact L 0 (Nat.zero_le _)

/-- how many papers of the first n piles set c before o -/
def ppF (I : II) (e : Nat) (c o : Int) : Nat → Int
  | 0 => 0
  | n + 1 => ppF I e c o n + (if prefG (I (e + 6 + n)) c o (I (e + 4) n).toNat 0 = 0 then 0 else I (e + 3) n)

set_option maxRecDepth 100000 in
set_option maxHeartbeats 4000000 in
theorem c_papersPreferring {l : Launch} {g : GV} {S : SS} {I : II} {X : XX} {e : Nat} {c o : Int} (hfl : l.stackTraces = false) (hE : isEl S e) (hW : WfE I e) (hc : 0 ≤ c ∧ c < 8) (ho : 0 ≤ o ∧ o < 8) : CE l g mX2_papersPreferring 1 [.ref e, .int (ii c), .int (ii o)] S I X (some (.int (ii (ppF I e c o (I e 4).toNat)))) I := by
  obtain ⟨y0, y1, y1a, y2, y2a, y3, y3a, y4, y4a, y5, y5a, yr⟩ := id hE
  have hW9 := hW
  obtain ⟨w0, w1, w2, w3, -⟩ := hW9
  obtain ⟨n, hn⟩ := Int.eq_ofNat_of_zero_le w2
  rw [show (I e 4).toNat = n by rw [hn]; rfl]
  have L : ∀ p : Nat, p ≤ n → V l g mX2_papersPreferring 1 (Zm g (QE (some (.int (ii (ppF I e c o n)))) S I X)) 0 0 5 [some (.ref e), some (.int (ii c)), some (.int (ii o)), some (.int (ii (ppF I e c o p))), some (.int (ii (p : Int)))] [] S I X := by
    refine loop_up fun p hp ih => ?_
    refine v_iload dX2_papersPreferring_5 rfl ?_
    refine v_aload_n dX2_papersPreferring_7 rfl ?_
    refine v_geti dX2_papersPreferring_8 fr_X2_40 (by assumption) (by decide) rfl ?_
    refine v_ic_ge (tgt := 41) dX2_papersPreferring_11 (by decide) (fun h11 => ?_) (fun h11 => ?_)
    · obtain rfl : p = n := by omega
      refine v_iload_n dX2_papersPreferring_41 rfl ?_
      exact v_iE dX2_papersPreferring_42 rfl (rfl) (rfl)
    · refine v_aload_n dX2_papersPreferring_14 rfl ?_
      refine v_iload dX2_papersPreferring_15 rfl ?_
      refine v_iload_n dX2_papersPreferring_17 rfl ?_
      refine v_iload_n dX2_papersPreferring_18 rfl ?_
      refine v_cV3 dX2_papersPreferring_19 lk_X2_56 (by assumption) (by decide) rfl (c_prefers hfl hE hW (by omega) hc ho) (by decide) (Nat.le_of_ble_eq_true rfl) ?_ rfl
      have h01 := prefG_01 (I (e + 6 + p)) c o (I (e + 4) p).toNat 0
      refine v_if_eq (tgt := 35) dX2_papersPreferring_22 (by decide) (fun h22 => ?_) (fun h22 => ?_)
      · refine v_iinc4 dX2_papersPreferring_35 rfl ?_
        refine v_goto (tgt := 5) dX2_papersPreferring_38 (by decide) ?_
        have q := ih (p + 1) (by omega) (by omega)
        simp only [ppF] at q
        first | (rw [if_pos h22, Int.add_zero] at q; exact q) | (rw [if_neg h22] at q; exact q)
      · refine v_iload_n dX2_papersPreferring_25 rfl ?_
        refine v_aload_n dX2_papersPreferring_26 rfl ?_
        refine v_getr dX2_papersPreferring_27 fr_X2_18 (by assumption) (by decide) rfl (by assumption) ?_
        refine v_iload dX2_papersPreferring_30 rfl ?_
        refine v_iald (j := p) dX2_papersPreferring_32 (by assumption) (by first | rfl | omega) (by omega) ?_
        refine v_iadd dX2_papersPreferring_33 ?_
        refine v_istn3 dX2_papersPreferring_34 rfl ?_
        refine v_iinc4 dX2_papersPreferring_35 rfl ?_
        refine v_goto (tgt := 5) dX2_papersPreferring_38 (by decide) ?_
        have q := ih (p + 1) (by omega) (by omega)
        simp only [ppF] at q
        first | (rw [if_pos h22, Int.add_zero] at q; exact q) | (rw [if_neg h22] at q; exact q)
  refine v_startE hfl rfl (by decide) (Nat.le_of_ble_eq_true rfl) (ls := [some (.ref e), some (.int (ii c)), some (.int (ii o)), none, none]) rfl ?_
  refine v_iconst dX2_papersPreferring_0 ?_
  refine v_istn3 dX2_papersPreferring_1 rfl ?_
  refine v_iconst dX2_papersPreferring_2 ?_
  refine v_ist4 dX2_papersPreferring_3 rfl ?_
  exact L 0 (Nat.zero_le _)

/-! ELECTION: its writings -/
def startM (I : II) (e : Nat) (nc ns : Int) : II := foldUp (fun k J => up J (e + 2) k (k : Int)) (up (up (up (up I e 0 nc) (e + 1) 3 ns) e 2 0) e 4 0) 8
def rankM (I : II) (e p a m : Nat) : II := foldUp (fun k J => up J (e + 6 + p) k (J a k)) (up I (e + 4) p (m : Int)) m
def addM (I : II) (e a m : Nat) (z : Int) : II := rankM (up (up I e 4 (I e 4 + 1)) (e + 3) (I e 4).toNat z) e (I e 4).toNat a m
def addForM (I : II) (e : Nat) (z : Int) : II := up (up (up (up I (e + 3) (I e 4).toNat 0) (e + 4) (I e 4).toNat 1) (e + 6 + (I e 4).toNat) 0 z) e 4 (I e 4 + 1)
def drawM (I : II) (e a n : Nat) : II := foldUp (fun k J => up J (e + 2) k (J a k)) I n
def cpyE (I : II) (e d : Nat) : II := foldUp (fun p J => cpy J (e + 6 + p) (d + 6 + p) 0 0 8) (cpy (cpy (cpy (cpy (up (up (up I d 0 (I e 0)) d 2 (up I d 0 (I e 0) e 2)) d 4 (up (up I d 0 (I e 0)) d 2 (up I d 0 (I e 0) e 2) e 4)) (e + 1) (d + 1) 0 0 4) (e + 2) (d + 2) 0 0 8) (e + 3) (d + 3) 0 0 25) (e + 4) (d + 4) 0 0 25) 25

set_option maxRecDepth 100000 in
set_option maxHeartbeats 4000000 in
theorem c_startAgain {l : Launch} {g : GV} {S : SS} {I : II} {X : XX} {e : Nat} {nc ns : Int} (hfl : l.stackTraces = false) (hE : isEl S e) : CE l g mX2_startAgain 0 [.ref e, .int (ii nc), .int (ii ns)] S I X none (startM I e nc ns) := by
  obtain ⟨y0, y1, y1a, y2, y2a, y3, y3a, y4, y4a, y5, y5a, yr⟩ := id hE
  have L : ∀ k : Nat, k ≤ 8 → V l g mX2_startAgain 0 (Zm g (QE none S (startM I e nc ns) X)) 0 0 24 [some (.ref e), some (.int (ii nc)), some (.int (ii ns)), some (.int (ii (k : Int)))] [] S (foldUp (fun k J => up J (e + 2) k (k : Int)) (up (up (up (up I e 0 nc) (e + 1) 3 ns) e 2 0) e 4 0) k) X := by
    refine loop_up fun k hk ih => ?_
    refine v_iload_n dX2_startAgain_24 rfl ?_
    refine v_bipush dX2_startAgain_25 (by decide) ?_
    refine v_ic_ge (tgt := 43) dX2_startAgain_27 (by decide) (fun h27 => ?_) (fun h27 => ?_)
    · obtain rfl : k = 8 := by omega
      exact v_vE dX2_startAgain_43 rfl (rfl)
    · refine v_aload_n dX2_startAgain_30 rfl ?_
      refine v_getr dX2_startAgain_31 fr_X2_15 (by assumption) (by decide) rfl (by assumption) ?_
      refine v_iload_n dX2_startAgain_34 rfl ?_
      refine v_iload_n dX2_startAgain_35 rfl ?_
      refine v_iast (j := k) dX2_startAgain_36 (by assumption) (by first | rfl | omega) (by omega) ?_
      refine v_iinc3 dX2_startAgain_37 rfl ?_
      refine v_goto (tgt := 24) dX2_startAgain_40 (by decide) ?_
      exact ih (k + 1) (by omega) (by omega)
  refine v_startE hfl rfl (by decide) (Nat.le_of_ble_eq_true rfl) (ls := [some (.ref e), some (.int (ii nc)), some (.int (ii ns)), none]) rfl ?_
  refine v_aload_n dX2_startAgain_0 rfl ?_
  refine v_iload_n dX2_startAgain_1 rfl ?_
  refine v_puti dX2_startAgain_2 fr_X2_33 (by assumption) (by decide) rfl ?_
  refine v_aload_n dX2_startAgain_5 rfl ?_
  refine v_getr dX2_startAgain_6 fr_X2_9 (by assumption) (by decide) rfl (by assumption) ?_
  refine v_iconst dX2_startAgain_9 ?_
  refine v_iload_n dX2_startAgain_10 rfl ?_
  refine v_iast (j := 3) dX2_startAgain_11 (by assumption) (by first | rfl | omega) (by omega) ?_
  refine v_aload_n dX2_startAgain_12 rfl ?_
  refine v_iconst dX2_startAgain_13 ?_
  refine v_puti dX2_startAgain_14 fr_X2_37 (by assumption) (by decide) rfl ?_
  refine v_aload_n dX2_startAgain_17 rfl ?_
  refine v_iconst dX2_startAgain_18 ?_
  refine v_puti dX2_startAgain_19 fr_X2_40 (by assumption) (by decide) rfl ?_
  refine v_iconst dX2_startAgain_22 ?_
  refine v_istn3 dX2_startAgain_23 rfl ?_
  exact L 0 (Nat.zero_le _)

set_option maxRecDepth 100000 in
set_option maxHeartbeats 4000000 in
theorem c_resize {l : Launch} {g : GV} {S : SS} {I : II} {X : XX} {e p : Nat} {z : Int} (hfl : l.stackTraces = false) (hE : isEl S e) (hp : (p : Int) < I e 4) (h25 : I e 4 ≤ 25) : CE l g mX2_resize 0 [.ref e, .int (ii (p : Int)), .int (ii z)] S I X none (up I (e + 3) p z) := by
  obtain ⟨y0, y1, y1a, y2, y2a, y3, y3a, y4, y4a, y5, y5a, yr⟩ := id hE
  refine v_startE hfl rfl (by decide) (Nat.le_of_ble_eq_true rfl) (ls := [some (.ref e), some (.int (ii (p : Int))), some (.int (ii z))]) rfl ?_
  refine v_iload_n dX2_resize_0 rfl ?_
  refine v_if_lt (tgt := 19) dX2_resize_1 (by decide) (fun h1 => ?_) (fun h1 => ?_)
  · first | exact v_vE dX2_resize_19 rfl rfl | (exfalso; omega)
  · refine v_iload_n dX2_resize_4 rfl ?_
    refine v_aload_n dX2_resize_5 rfl ?_
    refine v_geti dX2_resize_6 fr_X2_40 (by assumption) (by decide) rfl ?_
    refine v_ic_ge (tgt := 19) dX2_resize_9 (by decide) (fun h9 => ?_) (fun h9 => ?_)
    · first | exact v_vE dX2_resize_19 rfl rfl | (exfalso; omega)
    · refine v_aload_n dX2_resize_12 rfl ?_
      refine v_getr dX2_resize_13 fr_X2_18 (by assumption) (by decide) rfl (by assumption) ?_
      refine v_iload_n dX2_resize_16 rfl ?_
      refine v_iload_n dX2_resize_17 rfl ?_
      refine v_iast (j := p) dX2_resize_18 (by assumption) (by first | rfl | omega) (by omega) ?_
      first | exact v_vE dX2_resize_19 rfl rfl | (exfalso; omega)

set_option maxRecDepth 100000 in
set_option maxHeartbeats 4000000 in
theorem c_rank {l : Launch} {g : GV} {S : SS} {I : II} {X : XX} {e p a m : Nat} (hfl : l.stackTraces = false) (hE : isEl S e) (hp : (p : Int) < I e 4) (h25 : I e 4 ≤ 25) (ha : S.1[a]? = some (20, 8)) (hm : m ≤ 8) : CE l g mX2_rank 0 [.ref e, .int (ii (p : Int)), .ref a, .int (ii (m : Int))] S I X none (rankM I e p a m) := by
  obtain ⟨y0, y1, y1a, y2, y2a, y3, y3a, y4, y4a, y5, y5a, yr⟩ := id hE
  have L : ∀ k : Nat, k ≤ m → V l g mX2_rank 0 (Zm g (QE none S (rankM I e p a m) X)) 0 0 34 [some (.ref e), some (.int (ii (p : Int))), some (.ref a), some (.int (ii (m : Int))), some (.int (ii (k : Int)))] [] S (foldUp (fun k J => up J (e + 6 + p) k (J a k)) (up I (e + 4) p (m : Int)) k) X := by
    refine loop_up fun k hk ih => ?_
    refine v_iload dX2_rank_34 rfl ?_
    refine v_iload_n dX2_rank_36 rfl ?_
    refine v_ic_ge (tgt := 59) dX2_rank_37 (by decide) (fun h37 => ?_) (fun h37 => ?_)
    · first | (obtain rfl : k = m := by omega
               exact v_vE dX2_rank_59 rfl rfl) | (exfalso; omega)
    · have yq := (yr p (by omega)).2
      refine v_aload_n dX2_rank_40 rfl ?_
      refine v_getr dX2_rank_41 fr_X2_26 (by assumption) (by decide) rfl (by assumption) ?_
      refine v_iload_n dX2_rank_44 rfl ?_
      refine v_aald22 (j := p) dX2_rank_45 (by assumption) (by first | rfl | omega) (by omega) ((yr p (by omega)).1) ?_
      refine v_iload dX2_rank_46 rfl ?_
      refine v_aload_n dX2_rank_48 rfl ?_
      refine v_iload dX2_rank_49 rfl ?_
      refine v_iald (j := k) dX2_rank_51 (by assumption) (by first | rfl | omega) (by omega) ?_
      refine v_iast (j := k) dX2_rank_52 (by assumption) (by first | rfl | omega) (by omega) ?_
      refine v_iinc4 dX2_rank_53 rfl ?_
      refine v_goto (tgt := 34) dX2_rank_56 (by decide) ?_
      exact ih (k + 1) (by omega) (by omega)
  refine v_startE hfl rfl (by decide) (Nat.le_of_ble_eq_true rfl) (ls := [some (.ref e), some (.int (ii (p : Int))), some (.ref a), some (.int (ii (m : Int))), none]) rfl ?_
  refine v_iload_n dX2_rank_0 rfl ?_
  refine v_if_lt (tgt := 59) dX2_rank_1 (by decide) (fun h1 => ?_) (fun h1 => ?_)
  · first | (obtain rfl : k = m := by omega
             exact v_vE dX2_rank_59 rfl rfl) | (exfalso; omega)
  · refine v_iload_n dX2_rank_4 rfl ?_
    refine v_aload_n dX2_rank_5 rfl ?_
    refine v_geti dX2_rank_6 fr_X2_40 (by assumption) (by decide) rfl ?_
    refine v_ic_ge (tgt := 59) dX2_rank_9 (by decide) (fun h9 => ?_) (fun h9 => ?_)
    · first | (obtain rfl : k = m := by omega
               exact v_vE dX2_rank_59 rfl rfl) | (exfalso; omega)
    · refine v_iload_n dX2_rank_12 rfl ?_
      refine v_bipush dX2_rank_13 (by decide) ?_
      refine v_ic_gt (tgt := 59) dX2_rank_15 (by decide) (fun h15 => ?_) (fun h15 => ?_)
      · first | (obtain rfl : k = m := by omega
                 exact v_vE dX2_rank_59 rfl rfl) | (exfalso; omega)
      · refine v_iload_n dX2_rank_18 rfl ?_
        refine v_aload_n dX2_rank_19 rfl ?_
        refine v_alen dX2_rank_20 (by assumption) rfl ?_
        refine v_ic_gt (tgt := 59) dX2_rank_21 (by decide) (fun h21 => ?_) (fun h21 => ?_)
        · first | (obtain rfl : k = m := by omega
                   exact v_vE dX2_rank_59 rfl rfl) | (exfalso; omega)
        · refine v_aload_n dX2_rank_24 rfl ?_
          refine v_getr dX2_rank_25 fr_X2_21 (by assumption) (by decide) rfl (by assumption) ?_
          refine v_iload_n dX2_rank_28 rfl ?_
          refine v_iload_n dX2_rank_29 rfl ?_
          refine v_iast (j := p) dX2_rank_30 (by assumption) (by first | rfl | omega) (by omega) ?_
          refine v_iconst dX2_rank_31 ?_
          refine v_ist4 dX2_rank_32 rfl ?_
          exact L 0 (Nat.zero_le _)

set_option maxRecDepth 100000 in
set_option maxHeartbeats 4000000 in
theorem c_addPile {l : Launch} {g : GV} {S : SS} {I : II} {X : XX} {e a m : Nat} {z : Int} (hfl : l.stackTraces = false) (hE : isEl S e) (h0 : 0 ≤ I e 4) (h25 : I e 4 < 25) (ha : S.1[a]? = some (20, 8)) (hm : m ≤ 8) : CE l g mX2_addPile 1 [.ref e, .int (ii z), .ref a, .int (ii (m : Int))] S I X none (addM I e a m z) := by
  obtain ⟨y0, y1, y1a, y2, y2a, y3, y3a, y4, y4a, y5, y5a, yr⟩ := id hE
  obtain ⟨n, hn⟩ := Int.eq_ofNat_of_zero_le h0
  refine v_startE hfl rfl (by decide) (Nat.le_of_ble_eq_true rfl) (ls := [some (.ref e), some (.int (ii z)), some (.ref a), some (.int (ii (m : Int)))]) rfl ?_
  refine v_aload_n dX2_addPile_0 rfl ?_
  refine v_geti dX2_addPile_1 fr_X2_40 (by assumption) (by decide) rfl ?_
  refine v_bipush dX2_addPile_4 (by decide) ?_
  refine v_ic_ge (tgt := 42) dX2_addPile_6 (by decide) (fun h6 => ?_) (fun h6 => ?_)
  · first | (exfalso; omega) | exact v_vE dX2_addPile_42 rfl (by subst hJ2; subst hJ; unfold addM; rw [hn]; rfl)
  · refine v_aload_n dX2_addPile_9 rfl ?_
    refine v_dup dX2_addPile_10 rfl ?_
    refine v_geti dX2_addPile_11 fr_X2_40 (by assumption) (by decide) rfl ?_
    refine v_iconst dX2_addPile_14 ?_
    refine v_iadd dX2_addPile_15 ?_
    refine v_puti dX2_addPile_16 fr_X2_40 (by assumption) (by decide) rfl ?_
    generalize hJ : up I e 4 (I e 4 + 1) = J
    have j4 : J e 4 = (n : Int) + 1 := by rw [← hJ, up_eq, hn]
    refine v_aload_n dX2_addPile_19 rfl ?_
    refine v_aload_n dX2_addPile_20 rfl ?_
    refine v_geti dX2_addPile_21 fr_X2_40 (by assumption) (by decide) rfl ?_
    refine v_iconst dX2_addPile_24 ?_
    refine v_isub dX2_addPile_25 ?_
    refine v_iload_n dX2_addPile_26 rfl ?_
    rw [show J e 4 - 1 = (n : Int) by omega]
    refine v_cV2n dX2_addPile_27 lk_X2_49 (by assumption) (by decide) rfl (c_resize hfl hE (by omega) (by omega)) (by decide) (Nat.le_of_ble_eq_true rfl) ?_ rfl
    generalize hJ2 : up J (e + 3) n z = J2
    have j42 : J2 e 4 = (n : Int) + 1 := by rw [← hJ2, up_ne (by omega), j4]
    refine v_aload_n dX2_addPile_30 rfl ?_
    refine v_aload_n dX2_addPile_31 rfl ?_
    refine v_geti dX2_addPile_32 fr_X2_40 (by assumption) (by decide) rfl ?_
    refine v_iconst dX2_addPile_35 ?_
    refine v_isub dX2_addPile_36 ?_
    refine v_aload_n dX2_addPile_37 rfl ?_
    refine v_iload_n dX2_addPile_38 rfl ?_
    rw [show J2 e 4 - 1 = (n : Int) by omega]
    refine v_cV3n dX2_addPile_39 lk_X2_52 (by assumption) (by decide) rfl (c_rank hfl hE (by omega) (by omega) ha hm) (by decide) (Nat.le_of_ble_eq_true rfl) ?_ rfl
    first | (exfalso; omega) | exact v_vE dX2_addPile_42 rfl (by subst hJ2; subst hJ; unfold addM; rw [hn]; rfl)

set_option maxRecDepth 100000 in
set_option maxHeartbeats 4000000 in
theorem c_addPileFor {l : Launch} {g : GV} {S : SS} {I : II} {X : XX} {e : Nat} {z : Int} (hfl : l.stackTraces = false) (hE : isEl S e) (h0 : 0 ≤ I e 4) (h25 : I e 4 < 25) : CE l g mX2_addPileFor 0 [.ref e, .int (ii z)] S I X (some (.int (ii (I e 4)))) (addForM I e z) := by
  obtain ⟨y0, y1, y1a, y2, y2a, y3, y3a, y4, y4a, y5, y5a, yr⟩ := id hE
  obtain ⟨n, hn⟩ := Int.eq_ofNat_of_zero_le h0
  refine v_startE hfl rfl (by decide) (Nat.le_of_ble_eq_true rfl) (ls := [some (.ref e), some (.int (ii z))]) rfl ?_
  refine v_aload_n dX2_addPileFor_0 rfl ?_
  refine v_geti dX2_addPileFor_1 fr_X2_40 (by assumption) (by decide) rfl ?_
  refine v_bipush dX2_addPileFor_4 (by decide) ?_
  refine v_ic_lt (tgt := 11) dX2_addPileFor_6 (by decide) (fun h6 => ?_) (fun h6 => ?_)
  · refine v_aload_n dX2_addPileFor_11 rfl ?_
    refine v_getr dX2_addPileFor_12 fr_X2_18 (by assumption) (by decide) rfl (by assumption) ?_
    refine v_aload_n dX2_addPileFor_15 rfl ?_
    refine v_geti dX2_addPileFor_16 fr_X2_40 (by assumption) (by decide) rfl ?_
    refine v_iconst dX2_addPileFor_19 ?_
    refine v_iast (j := n) dX2_addPileFor_20 (by assumption) (hn) (by omega) ?_
    refine v_aload_n dX2_addPileFor_21 rfl ?_
    refine v_getr dX2_addPileFor_22 fr_X2_21 (by assumption) (by decide) rfl (by assumption) ?_
    refine v_aload_n dX2_addPileFor_25 rfl ?_
    refine v_geti dX2_addPileFor_26 fr_X2_40 (by assumption) (by decide) rfl ?_
    refine v_iconst dX2_addPileFor_29 ?_
    refine v_iast (j := n) dX2_addPileFor_30 (by assumption) (by rw [up_ne (by omega)]; exact hn) (by omega) ?_
    refine v_aload_n dX2_addPileFor_31 rfl ?_
    refine v_getr dX2_addPileFor_32 fr_X2_26 (by assumption) (by decide) rfl (by assumption) ?_
    refine v_aload_n dX2_addPileFor_35 rfl ?_
    refine v_geti dX2_addPileFor_36 fr_X2_40 (by assumption) (by decide) rfl ?_
    rw [show up (up I (e + 3) n 0) (e + 4) n 1 e 4 = (n : Int) by rw [up_ne (by omega), up_ne (by omega)]; exact hn]
    refine v_aald22 (j := n) dX2_addPileFor_39 (by assumption) rfl (by omega) (yr n (by omega)).1 ?_
    have yq := (yr n (by omega)).2
    refine v_iconst dX2_addPileFor_40 ?_
    refine v_iload_n dX2_addPileFor_41 rfl ?_
    refine v_iast (j := 0) dX2_addPileFor_42 (by assumption) (by first | rfl | omega) (by omega) ?_
    refine v_aload_n dX2_addPileFor_43 rfl ?_
    refine v_dup dX2_addPileFor_44 rfl ?_
    refine v_geti dX2_addPileFor_45 fr_X2_40 (by assumption) (by decide) rfl ?_
    refine v_iconst dX2_addPileFor_48 ?_
    rw [show up (up (up I (e + 3) n 0) (e + 4) n 1) (e + 6 + n) 0 z e 4 = (n : Int) by rw [up_ne (by omega), up_ne (by omega), up_ne (by omega)]; exact hn]
    refine v_iadd dX2_addPileFor_49 ?_
    refine v_puti dX2_addPileFor_50 fr_X2_40 (by assumption) (by decide) rfl ?_
    refine v_aload_n dX2_addPileFor_53 rfl ?_
    refine v_geti dX2_addPileFor_54 fr_X2_40 (by assumption) (by decide) rfl ?_
    refine v_iconst dX2_addPileFor_57 ?_
    refine v_isub dX2_addPileFor_58 ?_
    exact v_iE dX2_addPileFor_59 rfl (by rw [up_eq]; omega) (by unfold addForM; rw [hn]; rfl)
  · refine v_iconst dX2_addPileFor_9 ?_
    exfalso; omega

theorem drawM_o {I : II} {e a : Nat} : ∀ k : Nat, foldUp (fun k J => up J (e + 2) k (J a k)) I k e 0 = I e 0
  | 0 => rfl
  | k + 1 => by
    show up _ (e + 2) k _ e 0 = I e 0
    rw [up_ne (by omega)]
    exact drawM_o k

set_option maxRecDepth 100000 in
set_option maxHeartbeats 4000000 in
theorem c_drawLot {l : Launch} {g : GV} {S : SS} {I : II} {X : XX} {e a n : Nat} (hfl : l.stackTraces = false) (hE : isEl S e) (hn : I e 0 = (n : Int)) (h8 : n ≤ 8) (ha : S.1[a]? = some (20, 8)) : CE l g mX2_drawLot 0 [.ref e, .ref a] S I X none (drawM I e a n) := by
  obtain ⟨y0, y1, y1a, y2, y2a, y3, y3a, y4, y4a, y5, y5a, yr⟩ := id hE
  have L : ∀ k : Nat, k ≤ n → V l g mX2_drawLot 0 (Zm g (QE none S (drawM I e a n) X)) 0 0 2 [some (.ref e), some (.ref a), some (.int (ii (k : Int)))] [] S (foldUp (fun k J => up J (e + 2) k (J a k)) I k) X := by
    refine loop_up fun k hk ih => ?_
    refine v_iload_n dX2_drawLot_2 rfl ?_
    refine v_aload_n dX2_drawLot_3 rfl ?_
    refine v_geti dX2_drawLot_4 fr_X2_33 (by assumption) (by decide) rfl ?_
    have hc : foldUp (fun k J => up J (e + 2) k (J a k)) I k e 0 = n := by rw [drawM_o, hn]
    refine v_ic_ge (tgt := 31) dX2_drawLot_7 (by decide) (fun h7 => ?_) (fun h7 => ?_)
    · first | (obtain rfl : k = n := by omega
               exact v_vE dX2_drawLot_31 rfl rfl) | (exfalso; omega)
    · refine v_iload_n dX2_drawLot_10 rfl ?_
      refine v_aload_n dX2_drawLot_11 rfl ?_
      refine v_alen dX2_drawLot_12 (by assumption) rfl ?_
      refine v_ic_ge (tgt := 31) dX2_drawLot_13 (by decide) (fun h13 => ?_) (fun h13 => ?_)
      · first | (obtain rfl : k = n := by omega
                 exact v_vE dX2_drawLot_31 rfl rfl) | (exfalso; omega)
      · refine v_aload_n dX2_drawLot_16 rfl ?_
        refine v_getr dX2_drawLot_17 fr_X2_15 (by assumption) (by decide) rfl (by assumption) ?_
        refine v_iload_n dX2_drawLot_20 rfl ?_
        refine v_aload_n dX2_drawLot_21 rfl ?_
        refine v_iload_n dX2_drawLot_22 rfl ?_
        refine v_iald (j := k) dX2_drawLot_23 (by assumption) (by first | rfl | omega) (by omega) ?_
        refine v_iast (j := k) dX2_drawLot_24 (by assumption) (by first | rfl | omega) (by omega) ?_
        refine v_iinc2 dX2_drawLot_25 rfl ?_
        refine v_goto (tgt := 2) dX2_drawLot_28 (by decide) ?_
        exact ih (k + 1) (by omega) (by omega)
  refine v_startE hfl rfl (by decide) (Nat.le_of_ble_eq_true rfl) (ls := [some (.ref e), some (.ref a), none]) rfl ?_
  refine v_iconst dX2_drawLot_0 ?_
  refine v_istn2 dX2_drawLot_1 rfl ?_
  exact L 0 (Nat.zero_le _)

set_option maxRecDepth 100000 in
set_option maxHeartbeats 4000000 in
theorem c_copyFrom {l : Launch} {g : GV} {S : SS} {I : II} {X : XX} {e d : Nat} (hfl : l.stackTraces = false) (hE : isEl S e) (hD : isEl S d) : CE l g mX2_copyFrom 1 [.ref d, .ref e] S I X none (cpyE I e d) := by
  obtain ⟨y0, y1, y1a, y2, y2a, y3, y3a, y4, y4a, y5, y5a, yr⟩ := id hE
  obtain ⟨z0, z1, z1a, z2, z2a, z3, z3a, z4, z4a, z5, z5a, zr⟩ := id hD
  have L : ∀ p : Nat, p ≤ 25 → V l g mX2_copyFrom 1 (Zm g (QE none S (cpyE I e d) X)) 0 0 85 [some (.ref d), some (.ref e), some (.int (ii (p : Int)))] [] S (foldUp (fun p J => cpy J (e + 6 + p) (d + 6 + p) 0 0 8) (cpy (cpy (cpy (cpy (up (up (up I d 0 (I e 0)) d 2 (up I d 0 (I e 0) e 2)) d 4 (up (up I d 0 (I e 0)) d 2 (up I d 0 (I e 0) e 2) e 4)) (e + 1) (d + 1) 0 0 4) (e + 2) (d + 2) 0 0 8) (e + 3) (d + 3) 0 0 25) (e + 4) (d + 4) 0 0 25) p) X := by
    refine loop_up fun p hp ih => ?_
    refine v_iload_n dX2_copyFrom_85 rfl ?_
    refine v_bipush dX2_copyFrom_86 (by decide) ?_
    refine v_ic_ge (tgt := 116) dX2_copyFrom_88 (by decide) (fun h88 => ?_) (fun h88 => ?_)
    · obtain rfl : p = 25 := by omega
      exact v_vE dX2_copyFrom_116 rfl (rfl)
    · have yq := (yr p (by omega)).2
      have zq := (zr p (by omega)).2
      refine v_aload_n dX2_copyFrom_91 rfl ?_
      refine v_getr dX2_copyFrom_92 fr_X2_26 (by assumption) (by decide) rfl (by assumption) ?_
      refine v_iload_n dX2_copyFrom_95 rfl ?_
      refine v_aald22 (j := p) dX2_copyFrom_96 (by assumption) (by first | rfl | omega) (by omega) ((yr p (by omega)).1) ?_
      refine v_iconst dX2_copyFrom_97 ?_
      refine v_aload_n dX2_copyFrom_98 rfl ?_
      refine v_getr dX2_copyFrom_99 fr_X2_26 (by assumption) (by decide) rfl (by assumption) ?_
      refine v_iload_n dX2_copyFrom_102 rfl ?_
      refine v_aald22 (j := p) dX2_copyFrom_103 (by assumption) (by first | rfl | omega) (by omega) ((zr p (by omega)).1) ?_
      refine v_iconst dX2_copyFrom_104 ?_
      refine v_bipush dX2_copyFrom_105 (by decide) ?_
      refine v_copy (sp := 0) (dq := 0) (n := 8) dX2_copyFrom_107 cy_X2_43 (by assumption) (by assumption) (by first | rfl | omega) (by first | rfl | omega) (by first | rfl | omega) (by omega) (by omega) (by decide) (Nat.le_of_ble_eq_true rfl) ?_
      refine v_iinc2 dX2_copyFrom_110 rfl ?_
      refine v_goto (tgt := 85) dX2_copyFrom_113 (by decide) ?_
      exact ih (p + 1) (by omega) (by omega)
  refine v_startE hfl rfl (by decide) (Nat.le_of_ble_eq_true rfl) (ls := [some (.ref d), some (.ref e), none]) rfl ?_
  refine v_aload_n dX2_copyFrom_0 rfl ?_
  refine v_aload_n dX2_copyFrom_1 rfl ?_
  refine v_geti dX2_copyFrom_2 fr_X2_33 (by assumption) (by decide) rfl ?_
  refine v_puti dX2_copyFrom_5 fr_X2_33 (by assumption) (by decide) rfl ?_
  refine v_aload_n dX2_copyFrom_8 rfl ?_
  refine v_aload_n dX2_copyFrom_9 rfl ?_
  refine v_geti dX2_copyFrom_10 fr_X2_37 (by assumption) (by decide) rfl ?_
  refine v_puti dX2_copyFrom_13 fr_X2_37 (by assumption) (by decide) rfl ?_
  refine v_aload_n dX2_copyFrom_16 rfl ?_
  refine v_aload_n dX2_copyFrom_17 rfl ?_
  refine v_geti dX2_copyFrom_18 fr_X2_40 (by assumption) (by decide) rfl ?_
  refine v_puti dX2_copyFrom_21 fr_X2_40 (by assumption) (by decide) rfl ?_
  refine v_aload_n dX2_copyFrom_24 rfl ?_
  refine v_getr dX2_copyFrom_25 fr_X2_9 (by assumption) (by decide) rfl (by assumption) ?_
  refine v_iconst dX2_copyFrom_28 ?_
  refine v_aload_n dX2_copyFrom_29 rfl ?_
  refine v_getr dX2_copyFrom_30 fr_X2_9 (by assumption) (by decide) rfl (by assumption) ?_
  refine v_iconst dX2_copyFrom_33 ?_
  refine v_iconst dX2_copyFrom_34 ?_
  refine v_copy (sp := 0) (dq := 0) (n := 4) dX2_copyFrom_35 cy_X2_43 (by assumption) (by assumption) (by first | rfl | omega) (by first | rfl | omega) (by first | rfl | omega) (by omega) (by omega) (by decide) (Nat.le_of_ble_eq_true rfl) ?_
  refine v_aload_n dX2_copyFrom_38 rfl ?_
  refine v_getr dX2_copyFrom_39 fr_X2_15 (by assumption) (by decide) rfl (by assumption) ?_
  refine v_iconst dX2_copyFrom_42 ?_
  refine v_aload_n dX2_copyFrom_43 rfl ?_
  refine v_getr dX2_copyFrom_44 fr_X2_15 (by assumption) (by decide) rfl (by assumption) ?_
  refine v_iconst dX2_copyFrom_47 ?_
  refine v_bipush dX2_copyFrom_48 (by decide) ?_
  refine v_copy (sp := 0) (dq := 0) (n := 8) dX2_copyFrom_50 cy_X2_43 (by assumption) (by assumption) (by first | rfl | omega) (by first | rfl | omega) (by first | rfl | omega) (by omega) (by omega) (by decide) (Nat.le_of_ble_eq_true rfl) ?_
  refine v_aload_n dX2_copyFrom_53 rfl ?_
  refine v_getr dX2_copyFrom_54 fr_X2_18 (by assumption) (by decide) rfl (by assumption) ?_
  refine v_iconst dX2_copyFrom_57 ?_
  refine v_aload_n dX2_copyFrom_58 rfl ?_
  refine v_getr dX2_copyFrom_59 fr_X2_18 (by assumption) (by decide) rfl (by assumption) ?_
  refine v_iconst dX2_copyFrom_62 ?_
  refine v_bipush dX2_copyFrom_63 (by decide) ?_
  refine v_copy (sp := 0) (dq := 0) (n := 25) dX2_copyFrom_65 cy_X2_43 (by assumption) (by assumption) (by first | rfl | omega) (by first | rfl | omega) (by first | rfl | omega) (by omega) (by omega) (by decide) (Nat.le_of_ble_eq_true rfl) ?_
  refine v_aload_n dX2_copyFrom_68 rfl ?_
  refine v_getr dX2_copyFrom_69 fr_X2_21 (by assumption) (by decide) rfl (by assumption) ?_
  refine v_iconst dX2_copyFrom_72 ?_
  refine v_aload_n dX2_copyFrom_73 rfl ?_
  refine v_getr dX2_copyFrom_74 fr_X2_21 (by assumption) (by decide) rfl (by assumption) ?_
  refine v_iconst dX2_copyFrom_77 ?_
  refine v_bipush dX2_copyFrom_78 (by decide) ?_
  refine v_copy (sp := 0) (dq := 0) (n := 25) dX2_copyFrom_80 cy_X2_43 (by assumption) (by assumption) (by first | rfl | omega) (by first | rfl | omega) (by first | rfl | omega) (by omega) (by omega) (by decide) (Nat.le_of_ble_eq_true rfl) ?_
  refine v_iconst dX2_copyFrom_83 ?_
  refine v_istn2 dX2_copyFrom_84 rfl ?_
  exact L 0 (Nat.zero_le _)
