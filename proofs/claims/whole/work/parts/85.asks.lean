/-! CALLS that only ask, the rest -/
theorem plF_in {f : Nat → Int} {cd : Int} {w q : Nat} (hq : q < w) (h1 : f q = cd) (hu : ∀ k, k < w → f k = cd → k = q) : ∀ n k, k + n = w → k ≤ q → plF f cd n k = (q : Int)
  | 0, k, hk, hkq => by omega
  | n + 1, k, hk, hkq => by
    unfold plF
    by_cases hc : f k = cd
    · rw [if_pos hc, hu k (by omega) hc]
    · have hne : k ≠ q := fun e => hc (e ▸ h1)
      rw [if_neg hc]
      exact plF_in hq h1 hu n (k + 1) (by omega) (by omega)
theorem plF_no {f : Nat → Int} {cd : Int} {w : Nat} (hu : ∀ k, k < w → ¬ f k = cd) : ∀ n k, k + n = w → plF f cd n k = -1
  | 0, k, hk => rfl
  | n + 1, k, hk => by
    unfold plF
    rw [if_neg (hu k (by omega))]
    exact plF_no hu n (k + 1) (by omega)
theorem s_candidate {I : II} {sl : Nat → Nat} {c u : Int} (h : IV I sl) : IV (cdR I c u).2 sl ∧ ∃ K1, (tCd (cdR I c u).2 c u = 0 → ∃ K, knO (up (cdR I c u).2 508 6 0) = some K ∧ KO1 K ∧ K = K1) ∧ IV (if tCd (cdR I c u).2 c u ≤ 0 then (cdM K1 c u, K1) else (0, up (cdR I c u).2 508 6 (tCd (cdR I c u).2 c u))).2 sl ∧ OK2 IOB IAE (cdR I c u) (if tCd (cdR I c u).2 c u ≤ 0 then (cdM K1 c u, K1) else (0, up (cdR I c u).2 508 6 (tCd (cdR I c u).2 c u))).1 (if tCd (cdR I c u).2 c u ≤ 0 then (cdM K1 c u, K1) else (0, up (cdR I c u).2 508 6 (tCd (cdR I c u).2 c u))).2 := by
  obtain ⟨m, hm, hE⟩ := id h.2.2.2.2.2.1
  by_cases c1 : 0 ≤ c ∧ c < I 1 0
  · obtain ⟨h1, h10, hlo, hhi⟩ := IV_ct h
    have hi : icF I c = 1 := if_pos c1
    have e2 : (cdR I c u).2 = ctM I := by unfold cdR; rw [hi, if_neg (by decide)]; split <;> rfl
    have t9 : ctM I 509 0 = I 1 0 := by rw [hhi 509 (by omega)]; exact hE.1.1.symm
    rw [e2]
    have ht : tCd (ctM I) c u = if inF u 0 5 = 0 then 2 else 0 := by
      unfold tCd
      rw [t9, show inF c 0 (I 1 0 - 1) = 1 from if_pos (by omega), if_neg (by decide)]
    rw [ht]
    by_cases c2 : 0 ≤ u ∧ u ≤ 5
    · rw [show inF u 0 5 = 1 from if_pos c2, if_neg (by decide)]
      generalize hJ : ctM I = J at *
      obtain ⟨K, n, w, R, hK, hIV, hR, hx, h0⟩ := IV_q (IV_thr (t := 0) h1 (by omega)) (by rw [up_ne (by omega)]; exact h10)
      have hx2 : ∀ x, x < 508 → K x = J x := fun x hxx => (hx x hxx).trans (up_ne (by omega))
      refine ⟨h1, K, fun _ => ⟨K, hK, (hR.ko hIV.mi).1, rfl⟩, hIV, ?_⟩
      rw [if_pos (Int.le_refl 0)]
      have h6 : K 508 6 = 0 := by
        obtain ⟨K', hK', _, _, _, _, hf⟩ := IV_kn (IV_thr (t := 0) h1 (by omega))
        rw [hK] at hK'
        cases hK'
        rw [hf 6 (by omega) (by omega) (by omega) (by omega) (by omega) (by omega) (by omega)]
        exact up_eq
      obtain ⟨a1, a2, a3, a4, a5, a6, a7, a8, a9, a10, a11, a12, a13, a14⟩ := hR
      have hc8 : c.toNat < 8 := by have := h.1.1.1.2.1; omega
      unfold cdR
      rw [hi, if_neg (by decide), if_neg (by omega), hJ]
      refine OK2_ok h6 ?_
      unfold cdM
      by_cases u0 : u = 0
      · subst u0
        rw [if_pos rfl, if_neg (by decide), ← hx2 _ (by omega)]
        exact a10 (94 + 3) c.toNat 525 c.toNat (pr_st hc8) (by omega)
      · rw [if_neg u0]
        by_cases u1 : u = 1
        · subst u1
          rw [if_pos rfl, if_neg (by decide), ← hx2 _ (by omega)]
          exact a10 (94 + 16) c.toNat 526 c.toNat (pr_rd hc8) (by omega)
        · rw [if_neg u1]
          by_cases u2 : u = 2
          · subst u2
            rw [if_pos rfl, if_neg (by decide)]
            have hw : J (94 + 1) 1 = (w : Int) := by rw [← hx2 _ (by omega)]; exact a6
            rw [hw]
            show plF (J (94 + 1 + 1)) c w 0 = K 527 c.toNat
            have hor : ∀ k, k < w → J (94 + 1 + 1) k = K 530 k := fun k hk => by
              rw [← hx2 _ (by omega)]
              exact a10 (94 + 2) k 530 k (pr_or hk) (by omega)
            have h12 := a12 c.toNat hc8
            by_cases hst : K 525 c.toNat = 1
            · obtain ⟨g1, g2, g3⟩ := h12.2 hst
              rw [plF_in (q := (K 527 c.toNat).toNat) (w := w) (by omega) (by rw [hor _ (by omega), g3]; omega) (fun k hk hkc => ?_) w 0 (by omega) (by omega)]
              · omega
              · rw [hor k hk] at hkc
                have g4 := (a11 k hk).2.2.2
                rw [hkc] at g4
                omega
            · rw [h12.1 hst]
              refine plF_no (w := w) (fun k hk hkc => ?_) w 0 (by omega)
              rw [hor k hk] at hkc
              have g4 := (a11 k hk).2.2.1
              rw [hkc] at g4
              exact hst g4
          · rw [if_neg u2]
            by_cases u3 : u = 3
            · subst u3
              rw [if_pos rfl, if_neg (by decide), ← hx2 _ (by omega)]
              exact a10 (94 + 17) c.toNat 528 c.toNat (pr_rs hc8) (by omega)
            · rw [if_neg u3]
              by_cases u4 : u = 4
              · subst u4
                rw [if_pos rfl, if_neg (by decide), ← hx2 _ (by omega)]
                exact a10 (94 + 18) c.toNat 529 c.toNat (pr_tr hc8) (by omega)
              · rw [if_neg u4, if_pos (by omega)]
                unfold lvF
                have hr : J (94 + 1) 0 = (R : Int) := by rw [← hx2 _ (by omega)]; exact a4
                rw [hr, if_pos (by omega), a5, ← hx2 _ (by omega)]
                have := a10 (94 + 5 + (R - 1)) c.toNat 515 (8 * (R - 1) + c.toNat) (pr_vr (by omega) hc8) (by omega)
                rw [show 94 + 1 + 4 + ((R : Int) - 1).toNat = 94 + 5 + (R - 1) by omega, this]
                unfold mVt
                rw [show ((R : Int) - 1).toNat = R - 1 by omega]
    · rw [show inF u 0 5 = 0 from if_neg c2, if_pos rfl]
      refine ⟨h1, I, (fun h => absurd h (by decide)), ?_, ?_⟩
      · rw [if_neg (by decide)]
        exact IV_thr h1 (by omega)
      · rw [if_neg (by decide)]
        unfold cdR
        rw [hi, if_neg (by decide), if_pos (by omega)]
        dsimp only
        exact OK2_e2 up_eq
  · have hi : icF I c = 0 := if_neg c1
    have e2 : (cdR I c u).2 = I := by unfold cdR; rw [hi, if_pos rfl]; rfl
    rw [e2]
    have ht : tCd I c u = 1 := by
      unfold tCd
      rw [← hE.1.1, show inF c 0 (I 1 0 - 1) = 0 from if_neg (by omega), if_pos rfl]
    rw [ht]
    refine ⟨h, I, (fun h => absurd h (by decide)), ?_, ?_⟩
    · rw [if_neg (by decide)]
      exact IV_thr h (by omega)
    · rw [if_neg (by decide)]
      unfold cdR
      rw [hi, if_pos rfl]
      dsimp only
      exact OK2_e1 up_eq
/-- all papers -/
theorem EL_ps {I : II} {n : Nat} (hE : EL I 1 I n n) : sumTo (I (1 + 3)) (I 1 4).toNat = mPs I := by
  unfold mPs
  rw [hE.1.2.2.1, hE.1.2.2.2.1]
  exact sumTo_same _ fun i hi => (hE.2.2.2.1 i (by omega)).1
def OKf (r : RR) (u : UInt32) (J : II) : Prop := (r.1 = .inl (some (.float u)) ∧ J 508 6 = 0) ∨ (r.1 = .inr IOB ∧ J 508 6 = 1) ∨ (r.1 = .inr ARI ∧ J 508 6 = 2)
theorem s_share {I : II} {sl : Nat → Nat} {z c : Int} (h : IV I sl) : IV (shR I z c).2 sl ∧ ∃ K, knO (shR I z c).2 = some K ∧ KO K ∧ IV (up K 508 6 (tSh K z c)) sl ∧ OKf (shR I z c) (shM K z c) (up K 508 6 (tSh K z c)) := by
  obtain ⟨h1, h10, hlo, hhi⟩ := IV_ct h
  unfold shR
  generalize ctM I = J at h1 h10
  obtain ⟨K, n, w, R, hK, hIV, hR, hx, h0⟩ := IV_q h1 h10
  have e2 : (if hrF J 95 z = 0 then erI IOB J else if icF J c = 0 then erI IOB J else if sumTo (J (1 + 3)) (J 1 4).toNat * 10000 ≤ 0 then erI ARI J else (.inl (some (.float (FP.fdiv (FP.i2f (ii (J (95 + 4 + z.toNat) c.toNat))) (FP.i2f (ii (sumTo (J (1 + 3)) (J 1 4).toNat * 10000)))))), J)).2 = J := by split <;> (try split) <;> (try split) <;> rfl
  have ht : 0 ≤ tSh K z c ∧ tSh K z c ≤ 2 := by unfold tSh; split <;> (try split) <;> omega
  rw [e2]
  refine ⟨h1, K, hK, (hR.ko hIV.mi).2, IV_thr hIV ht, ?_⟩
  obtain ⟨m, hm, hE⟩ := id hIV.2.2.2.2.2.1
  have hps := EL_ps hE
  have hpb : 0 ≤ mPs K := by
    rw [← hps]
    have w1 := hIV.1.1.1
    have := sumTo_nn (f := K (1 + 3)) (K 1 4).toNat (fun i hi => (w1.2.2.2.2.2.2.1 i (by have := w1.2.2.2.1; omega)).1)
    exact this
  obtain ⟨a1, a2, a3, a4, a5, a6, a7, a8, a9, a10, a11, a12, a13, a14⟩ := hR
  have w0 := hIV.mi.1.1
  have q1 : J 95 0 = (R : Int) := by rw [← hx 95 (by omega)]; exact a4
  have q2 : J 1 0 = K 509 0 := by rw [← hx 1 (by omega)]; exact h0
  have q3 : sumTo (J (1 + 3)) (J 1 4).toNat = mPs K := by rw [← hps, hx (1 + 3) (by omega), hx 1 (by omega)]
  unfold shM
  by_cases c1 : 0 ≤ z ∧ z < (R : Int)
  · have f1 : hrF J 95 z = 1 := if_pos (by rw [q1]; exact c1)
    have g1 : inF z 0 (K 508 15 - 1) = 1 := if_pos (by omega)
    by_cases c2 : 0 ≤ c ∧ c < K 509 0
    · have f2 : icF J c = 1 := if_pos (by rw [q2]; exact c2)
      have g2 : inF c 0 (K 509 0 - 1) = 1 := if_pos (by omega)
      by_cases c3 : mPs K = 0
      · have ht : tSh K z c = 2 := by unfold tSh; rw [if_neg (by omega), if_pos c3]
        rw [ht, if_neg (by omega), if_neg (by omega), if_pos (by rw [q3]; omega)]
        exact Or.inr (Or.inr ⟨rfl, up_eq⟩)
      · have ht : tSh K z c = 0 := by unfold tSh; rw [if_neg (by omega), if_neg c3]
        rw [ht, if_neg (by omega), if_neg (by omega), if_neg (by rw [q3]; omega), if_pos (Int.le_refl 0)]
        refine Or.inl ⟨?_, up_eq⟩
        have := a10 (94 + 5 + z.toNat) c.toNat 515 (8 * z.toNat + c.toNat) (pr_vr (by omega) (by omega)) (by omega)
        rw [← hx _ (by omega), show 95 + 4 + z.toNat = 94 + 5 + z.toNat by omega, this, q3]
        rfl
    · have f2 : icF J c = 0 := if_neg (by rw [q2]; exact c2)
      have g2 : inF c 0 (K 509 0 - 1) = 0 := if_neg (by omega)
      have ht : tSh K z c = 1 := by unfold tSh; rw [if_pos (by omega)]
      rw [ht, if_neg (by omega), if_pos (by omega)]
      exact Or.inr (Or.inl ⟨rfl, up_eq⟩)
  · have f1 : hrF J 95 z = 0 := if_neg (by rw [q1]; exact c1)
    have g1 : inF z 0 (K 508 15 - 1) = 0 := if_neg (by omega)
    have ht : tSh K z c = 1 := by unfold tSh; rw [if_pos (by omega)]
    rw [ht, if_pos (by omega)]
    exact Or.inr (Or.inl ⟨rfl, up_eq⟩)
/-- an election's papers, pile by pile -/
theorem pf_pile (f : Nat → Int) (c o : Int) : ∀ n k, n + k ≤ 8 → ((prefG f c o n k = 0 ∧ ¬ poF f c n k < poF f o n k) ∨ (prefG f c o n k = 1 ∧ poF f c n k < poF f o n k))
  | 0, k, _ => Or.inl ⟨rfl, by show ¬ (8 : Int) < 8; decide⟩
  | n + 1, k, hk => by
    have L : ∀ d : Int, ∀ n j : Nat, n + j ≤ 8 → (j : Int) ≤ poF f d n j := by
      intro d n
      induction n with
      | zero => intro j hj; show (j : Int) ≤ 8; omega
      | succ n ih =>
        intro j hj
        unfold poF
        split
        · omega
        · have := ih (j + 1) (by omega); omega
    unfold prefG poF
    by_cases h1 : f k = o
    · rw [if_pos h1, if_pos h1]
      refine Or.inl ⟨rfl, ?_⟩
      by_cases h2 : f k = c
      · rw [if_pos h2]; omega
      · rw [if_neg h2]
        have := L c n (k + 1) (by omega)
        omega
    · rw [if_neg h1, if_neg h1]
      by_cases h2 : f k = c
      · rw [if_pos h2, if_pos h2]
        have := L o n (k + 1) (by omega)
        exact Or.inr ⟨rfl, by omega⟩
      · rw [if_neg h2, if_neg h2]
        exact pf_pile f c o n (k + 1) (by omega)
theorem prefG_c {f g : Nat → Int} {c o : Int} : ∀ n k, (∀ j, k ≤ j → j < k + n → f j = g j) → prefG f c o n k = prefG g c o n k
  | 0, _, _ => rfl
  | n + 1, k, h => by
    unfold prefG
    rw [h k (by omega) (by omega), prefG_c n (k + 1) fun j a b => h j (by omega) (by omega)]
theorem pf_eq {I : II} {n : Nat} (hE : EL I 1 I n n) (hW : WfM I) (c o : Int) : ∀ p, p ≤ n → ppF I 1 c o p = mPf I c o p
  | 0, _ => rfl
  | p + 1, hp => by
    have hn := hE.1.2.2.2.2.2
    obtain ⟨e1, e2, e3⟩ := hE.2.2.2.1 p (by omega)
    have w4 := hW.2.2.2.2.1 p (by omega)
    unfold ppF mPf
    rw [pf_eq hE hW c o p (by omega), e1, e2, prefG_c (g := mRk I p) _ _ (fun j a b => e3 j (by omega))]
    unfold mPo
    rcases pf_pile (mRk I p) c o (mLn I p).toNat 0 (by omega) with ⟨h1, h2⟩ | ⟨h1, h2⟩
    · rw [if_pos h1, if_neg h2]
    · rw [if_neg (by omega), if_pos h2]
theorem pf_all {I : II} {n : Nat} (hE : EL I 1 I n n) (hW : WfM I) (c o : Int) : ppF I 1 c o (I 1 4).toNat = mPf I c o (I 509 1).toNat := by
  rw [hE.1.2.2.1, hE.1.2.2.2.1]
  exact pf_eq hE hW c o _ (by omega)
theorem s_preferring {I : II} {sl : Nat → Nat} {c o : Int} (h : IV I sl) : (pfR I c o).2 = I ∧ IV (pfM I c o).2 sl ∧ OK1 IOB (pfR I c o) (pfM I c o).1 (pfM I c o).2 := by
  obtain ⟨m, hm, hE⟩ := id h.2.2.2.2.2.1
  have e0 := hE.1.1
  have hp := pf_all hE h.mi.1 c o
  unfold pfR pfM
  by_cases c1 : 0 ≤ c ∧ c < I 1 0
  · have f1 : icF I c = 1 := if_pos c1
    have g1 : inF c 0 (I 509 0 - 1) = 1 := if_pos (by omega)
    by_cases c2 : 0 ≤ o ∧ o < I 1 0
    · have f2 : icF I o = 1 := if_pos c2
      have g2 : inF o 0 (I 509 0 - 1) = 1 := if_pos (by omega)
      have ht : tPf I c o = 0 := if_neg (by omega)
      rw [ht, if_neg (by omega), if_neg (by omega), if_pos rfl]
      dsimp only
      exact ⟨rfl, IV_thr h (by omega), OK1_ok up_eq hp⟩
    · have f2 : icF I o = 0 := if_neg c2
      have g2 : inF o 0 (I 509 0 - 1) = 0 := if_neg (by omega)
      have ht : tPf I c o = 1 := if_pos (by omega)
      rw [ht, if_neg (by omega), if_pos (by omega), if_neg (show ¬ (1 : Int) = 0 by decide)]
      dsimp only
      exact ⟨rfl, IV_thr h (by omega), OK1_e up_eq⟩
  · have f1 : icF I c = 0 := if_neg c1
    have g1 : inF c 0 (I 509 0 - 1) = 0 := if_neg (by omega)
    have ht : tPf I c o = 1 := if_pos (by omega)
    rw [ht, if_pos (by omega), if_neg (show ¬ (1 : Int) = 0 by decide)]
    dsimp only
    exact ⟨rfl, IV_thr h (by omega), OK1_e up_eq⟩
theorem s_points {I : II} {sl : Nat → Nat} {c : Int} (h : IV I sl) : (ptR I c).2 = I ∧ IV (ptM I c).2 sl ∧ OK1 IOB (ptR I c) (ptM I c).1 (ptM I c).2 := by
  obtain ⟨m, hm, hE⟩ := id h.2.2.2.2.2.1
  have e0 := hE.1.1
  have hp : ∀ k, ptF I c k = ptS I c k := by
    intro k
    induction k with
    | zero => rfl
    | succ k ih =>
      show ptF I c k + ppF I 1 c k (I 1 4).toNat = ptS I c k + mPf I c k (I 509 1).toNat
      rw [ih, pf_all hE h.mi.1]
  unfold ptR ptM
  by_cases c1 : 0 ≤ c ∧ c < I 1 0
  · have f1 : icF I c = 1 := if_pos c1
    have g1 : inF c 0 (I 509 0 - 1) = 1 := if_pos (by omega)
    have ht : tWd I c = 0 := if_neg (by omega)
    rw [ht, if_neg (by omega), if_pos rfl]
    dsimp only
    exact ⟨rfl, IV_thr h (by omega), OK1_ok up_eq (by rw [hp, e0])⟩
  · have f1 : icF I c = 0 := if_neg c1
    have g1 : inF c 0 (I 509 0 - 1) = 0 := if_neg (by omega)
    have ht : tWd I c = 1 := if_pos (by omega)
    rw [ht, if_pos (by omega), if_neg (show ¬ (1 : Int) = 0 by decide)]
    dsimp only
    exact ⟨rfl, IV_thr h (by omega), OK1_e up_eq⟩
theorem bb_0 {J : II} {c : Nat} : ∀ n d, bbF J c n d 0 = 0
  | 0, _ => rfl
  | n + 1, d => by unfold bbF; rw [if_pos rfl]
theorem be_bb {I : II} {n : Nat} (hE : EL I 1 I n n) (hW : WfM I) {c : Nat} : ∀ f k, bbF I c f k 1 = beF I c f k
  | 0, _ => rfl
  | f + 1, k => by
    have e2 := hE.1.2.1
    unfold bbF beF
    rw [if_neg (by decide)]
    by_cases h1 : (k : Int) = c
    · rw [if_pos h1, if_pos (Or.inl h1)]
      exact be_bb hE hW f (k + 1)
    · rw [if_neg h1]
      by_cases h2 : ¬ btI (I 1 2).toNat k = 0
      · rw [if_pos h2, if_pos (Or.inr (Or.inl (by rw [← e2]; exact h2)))]
        exact be_bb hE hW f (k + 1)
      · rw [if_neg h2, pf_all hE hW, pf_all hE hW]
        by_cases h3 : mPf I c k (I 509 1).toNat ≤ mPf I k c (I 509 1).toNat
        · rw [if_pos h3, if_neg (by rw [← e2]; omega)]
          exact bb_0 f (k + 1)
        · rw [if_neg h3, if_pos (by omega)]
          exact be_bb hE hW f (k + 1)
theorem ba_bz {I : II} {n : Nat} (hE : EL I 1 I n n) (hW : WfM I) : ∀ f k, baF I f k = bzF I f k
  | 0, _ => rfl
  | f + 1, k => by
    have e2 := hE.1.2.1
    have e0 := hE.1.1
    unfold baF bzF bcB
    rw [e2]
    by_cases h2 : btI (I 509 2).toNat k = 0
    · rw [if_neg (by omega), if_pos h2, be_bb hE hW, e0, ba_bz hE hW f (k + 1)]
    · rw [if_pos h2, if_neg h2, bb_0, if_pos rfl, ba_bz hE hW f (k + 1)]
theorem s_beatsAll {I : II} {sl : Nat → Nat} (h : IV I sl) : IV (up I 508 6 0) sl ∧ baF I (I 1 0).toNat 0 = bzF I (I 509 0).toNat 0 := by
  obtain ⟨m, hm, hE⟩ := id h.2.2.2.2.2.1
  exact ⟨IV_thr h (by omega), by rw [ba_bz hE h.mi.1, hE.1.1]⟩
theorem s_errorPosition {I : II} {sl : Nat → Nat} (h : IV I sl) : IV (up I 508 6 0) sl ∧ I 198 5 = I 508 11 := ⟨IV_thr h (by omega), h.2.2.2.2.1.1⟩
theorem s_pile {I : II} {sl : Nat → Nat} {z w : Int} (h : IV I sl) : (plR I z w).2 = I ∧ IV (plM I z w).2 sl ∧ OK2 IOB IAE (plR I z w) (plM I z w).1 (plM I z w).2 := by
  obtain ⟨m, hm, hE⟩ := id h.2.2.2.2.2.1
  have e4 := hE.1.2.2.1
  have e1 := hE.1.2.2.2.1
  unfold plR plM
  by_cases c1 : 0 ≤ z ∧ z < (m : Int)
  · obtain ⟨g1, g2, g3⟩ := hE.2.2.2.1 z.toNat (by omega)
    have w4 := h.mi.1.2.2.2.2.1 z.toNat (by omega)
    have f1 : ilF I z = 1 := if_pos (by omega)
    have k1 : inF z 0 (I 509 1 - 1) = 1 := if_pos (by omega)
    rw [if_neg (by omega)]
    by_cases w0 : w = 0
    · have k2 : inF w 0 1 = 1 := if_pos (by omega)
      have ht : tPl I z w = 0 := by unfold tPl; rw [if_neg (by omega), if_neg (by omega)]
      rw [ht, if_pos w0, if_pos rfl, if_pos w0]
      dsimp only
      exact ⟨rfl, IV_thr h (by omega), OK2_ok up_eq g1⟩
    · by_cases w1 : w = 1
      · have k2 : inF w 0 1 = 1 := if_pos (by omega)
        have ht : tPl I z w = 0 := by unfold tPl; rw [if_neg (by omega), if_neg (by omega)]
        rw [ht, if_neg w0, if_pos w1, if_pos rfl, if_neg w0, if_pos w1]
        dsimp only
        exact ⟨rfl, IV_thr h (by omega), OK2_ok up_eq g2⟩
      · have k2 : inF w 0 1 = 0 := if_neg (by omega)
        rw [if_neg w0, if_neg w1, g2]
        by_cases w2 : w < 10 ∨ 10 + mLn I z.toNat ≤ w
        · have ht : tPl I z w = 2 := by unfold tPl; rw [if_neg (by omega), if_pos ⟨k2, by omega⟩]
          rw [ht, if_pos w2, if_neg (show ¬ (2 : Int) = 0 by decide)]
          dsimp only
          exact ⟨rfl, IV_thr h (by omega), OK2_e2 up_eq⟩
        · have ht : tPl I z w = 0 := by unfold tPl; rw [if_neg (by omega), if_neg (by omega)]
          rw [ht, if_neg w2, if_pos rfl, if_neg w0, if_neg w1]
          dsimp only
          exact ⟨rfl, IV_thr h (by omega), OK2_ok up_eq (g3 (w - 10).toNat (by omega))⟩
  · have f1 : ilF I z = 0 := if_neg (by omega)
    have k1 : inF z 0 (I 509 1 - 1) = 0 := if_neg (by omega)
    have ht : tPl I z w = 1 := by unfold tPl; rw [if_pos (by omega)]
    rw [ht, if_pos (by omega), if_neg (show ¬ (1 : Int) = 0 by decide)]
    dsimp only
    exact ⟨rfl, IV_thr h (by omega), OK2_e1 up_eq⟩
theorem s_character {I : II} {sl : Nat → Nat} {z x : Int} (h : IV I sl) : (chR I z x).2 = I ∧ IV (chM9 I z x).2 sl ∧ OK1 IOB (chR I z x) (chM9 I z x).1 (chM9 I z x).2 := by
  obtain ⟨m, hm, hE⟩ := id h.2.2.2.2.2.1
  have e4 := hE.1.2.2.1
  have e1 := hE.1.2.2.2.1
  have ht1 : 0 ≤ t1C I z ∧ t1C I z ≤ 1 := by unfold t1C; split <;> omega
  have ht2 : 0 ≤ tCh I z x ∧ tCh I z x ≤ 1 := by unfold tCh; split <;> omega
  have hIV : IV (chM9 I z x).2 sl := IV_thr (IV_thr h (by omega)) (by omega)
  refine ⟨?_, hIV, ?_⟩
  · unfold chR
    split
    · rfl
    · split
      · rfl
      · split <;> rfl
  · show OK1 IOB (chR I z x) (if tCh I z x ≤ 0 then (if x < 0 then al1 I z else sgM I z.toNat x) else 0) (up (up I 508 6 (t1C I z)) 508 6 (tCh I z x))
    unfold chR
    by_cases c1 : 0 ≤ z ∧ z < (m : Int)
    · have f1 : ilF I z = 1 := if_pos (by omega)
      have k1 : inF z 0 (I 509 1 - 1) = 1 := if_pos (by omega)
      have ht : t1C I z = 0 := if_neg (by omega)
      obtain ⟨g1, g2, g3⟩ := hE.2.2.2.1 z.toNat (by omega)
      have w4 := h.mi.1.2.2.2.2.1 z.toNat (by omega)
      have w3 := h.mi.1.2.2.2.1 z.toNat (by omega)
      have hdg : dgF I z.toNat = dgM I z.toNat := by unfold dgF dgM; rw [g1]
      have hal : al1 I z = dgM I z.toNat + mLn I z.toNat + 2 := by unfold al1; rw [ht, if_pos (by decide)]
      have hdr : dgM I z.toNat = 1 ∨ dgM I z.toNat = 2 := by unfold dgM; split <;> omega
      rw [if_neg (by omega), hdg, g2]
      by_cases c2 : x < -1 ∨ dgM I z.toNat + mLn I z.toNat + 2 ≤ x
      · have k2 : inF x (-1) (al1 I z - 1) = 0 := if_neg (by omega)
        have hc : tCh I z x = 1 := if_pos (Or.inr k2)
        rw [hc, if_pos c2, if_neg (show ¬ (1 : Int) ≤ 0 by decide)]
        exact OK1_e up_eq
      · have k2 : inF x (-1) (al1 I z - 1) = 1 := if_pos (by omega)
        have hc : tCh I z x = 0 := if_neg (by omega)
        rw [hc, if_neg c2, if_pos (Int.le_refl 0)]
        by_cases c3 : x = -1
        · rw [if_pos c3, if_pos (by omega)]
          exact OK1_ok up_eq hal.symm
        · rw [if_neg c3, if_neg (by omega)]
          refine OK1_ok up_eq ?_
          unfold sgR sgM
          rw [hdg, g1]
          by_cases c4 : x < dgM I z.toNat
          · rw [if_pos c4, if_pos c4]
            by_cases c5 : x + 1 = dgM I z.toNat
            · rw [if_pos c5, if_neg (by omega)]
            · rw [if_neg c5, if_pos (by omega)]
          · rw [if_neg c4, if_neg c4]
            by_cases c5 : x = dgM I z.toNat
            · rw [if_pos (by omega), if_pos c5]
            · rw [if_neg (by omega), if_neg c5]
              by_cases c6 : x - dgM I z.toNat - 1 < mLn I z.toNat
              · rw [if_pos (show x - dgM I z.toNat - 1 < I (1 + 4) z.toNat by rw [g2]; exact c6), if_neg (by omega), g3 _ (by omega)]
              · rw [if_neg (show ¬ x - dgM I z.toNat - 1 < I (1 + 4) z.toNat by rw [g2]; exact c6), if_pos (by omega)]
    · have f1 : ilF I z = 0 := if_neg (by omega)
      have k1 : inF z 0 (I 509 1 - 1) = 0 := if_neg (by omega)
      have ht : t1C I z = 1 := if_pos k1
      have hc : tCh I z x = 1 := if_pos (by omega)
      rw [hc, if_pos (by omega), if_neg (show ¬ (1 : Int) ≤ 0 by decide)]
      exact OK1_e up_eq
