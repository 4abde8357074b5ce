/-! CALLS that only ask: the answers are the same -/
def OK1 (E1 : String) (r : RR) (b : Int) (J : II) : Prop := (∃ z, r.1 = .inl (some (.int (ii z))) ∧ J 508 6 = 0 ∧ z = b) ∨ (r.1 = .inr E1 ∧ J 508 6 = 1)
def OK2 (E1 E2 : String) (r : RR) (b : Int) (J : II) : Prop := (∃ z, r.1 = .inl (some (.int (ii z))) ∧ J 508 6 = 0 ∧ z = b) ∨ (r.1 = .inr E1 ∧ J 508 6 = 1) ∨ (r.1 = .inr E2 ∧ J 508 6 = 2)
theorem RSS.ko {K : II} {n w R : Nat} (h : RSS K n w R) (hM : MI K) : KO1 K ∧ KO K := by
  obtain ⟨a1, a2, a3, a4, a5, a6, a7, a8, a9, a10, a11, a12, a13, a14⟩ := h
  refine ⟨⟨hM, by rw [a5]; omega, by rw [a7]; omega⟩, hM, by rw [a5]; omega, by rw [a7]; omega⟩
/-- both counted: K is what both hold -/
theorem IV_q {I : II} {sl : Nat → Nat} (h : IV I sl) (h1 : I 0 10 = 1) : ∃ K n w R, knO I = some K ∧ IV K sl ∧ RSS K n w R ∧ (∀ x, x < 508 → K x = I x) ∧ K 1 0 = K 509 0 := by
  obtain ⟨K, hK, hIV, h14, hlo, hhi, hf⟩ := IV_kn h
  obtain ⟨n, w, R, hR⟩ := QV_rss hIV.qv (by rw [hlo 0 (by omega) (by omega)]; exact h1) h14
  obtain ⟨m, hm, hE⟩ := hIV.2.2.2.2.2.1
  exact ⟨K, n, w, R, hK, hIV, hR, fun x hx => hlo x (by omega) (by omega), hE.1.1⟩
theorem OK1_ok {E : String} {I J : II} {z b : Int} (h6 : J 508 6 = 0) (h : z = b) : OK1 E (okI z I) b J := Or.inl ⟨z, rfl, h6, h⟩
theorem OK2_ok {E E2 : String} {I J : II} {z b : Int} (h6 : J 508 6 = 0) (h : z = b) : OK2 E E2 (okI z I) b J := Or.inl ⟨z, rfl, h6, h⟩
theorem OK1_e {E : String} {I J : II} {b : Int} (h6 : J 508 6 = 1) : OK1 E (erI E I) b J := Or.inr ⟨rfl, h6⟩
theorem OK2_e1 {E E2 : String} {I J : II} {b : Int} (h6 : J 508 6 = 1) : OK2 E E2 (erI E I) b J := Or.inr (Or.inl ⟨rfl, h6⟩)
theorem OK2_e2 {E E2 : String} {I J : II} {b : Int} (h6 : J 508 6 = 2) : OK2 E E2 (erI E2 I) b J := Or.inr (Or.inr ⟨rfl, h6⟩)
theorem s_rounds {I : II} {sl : Nat → Nat} (h : IV I sl) : IV (ctM I) sl ∧ ∃ K, knO (up (ctM I) 508 6 0) = some K ∧ IV K sl ∧ ctM I 95 0 = K 508 15 := by
  obtain ⟨h1, h10, hlo, hhi⟩ := IV_ct h
  obtain ⟨K, n, w, R, hK, hIV, hR, hx, _⟩ := IV_q (IV_thr (t := 0) h1 (by omega)) (by rw [up_ne (by omega)]; exact h10)
  refine ⟨h1, K, hK, hIV, ?_⟩
  have h3 : K 95 = ctM I 95 := (hx 95 (by omega)).trans (up_ne (by omega))
  rw [← h3, hR.2.2.2.1, hR.2.2.2.2.1]
theorem s_votes {I : II} {sl : Nat → Nat} {z c : Int} (h : IV I sl) : IV (cvR (ctM I) z c).2 sl ∧ ∃ K, knO (cvR (ctM I) z c).2 = some K ∧ KO K ∧ IV (vtM K z c).2 sl ∧ OK1 IOB (cvR (ctM I) z c) (vtM K z c).1 (vtM K z c).2 := by
  obtain ⟨h1, h10, hlo, hhi⟩ := IV_ct h
  generalize ctM I = J at h1 h10
  obtain ⟨K, n, w, R, hK, hIV, hR, hx, h0⟩ := IV_q h1 h10
  have e2 : (cvR J z c).2 = J := by unfold cvR; split <;> (try split) <;> rfl
  have ht : 0 ≤ tVt K z c ∧ tVt K z c ≤ 2 := by unfold tVt; split <;> omega
  rw [e2]
  refine ⟨h1, K, hK, (hR.ko hIV.mi).2, IV_thr hIV ht, ?_⟩
  obtain ⟨a1, a2, a3, a4, a5, a6, a7, a8, a9, a10, a11, a12, a13, a14⟩ := hR
  have w0 := hIV.mi.1.1
  have q1 : J 95 0 = (R : Int) := by rw [← hx 95 (by omega)]; exact a4
  have q2 : J 1 0 = K 509 0 := by rw [← hx 1 (by omega)]; exact h0
  show OK1 IOB (cvR J z c) (if tVt K z c ≤ 0 then mVt K z.toNat c.toNat else 0) (up K 508 6 (tVt K z c))
  by_cases c1 : 0 ≤ z ∧ z < (R : Int)
  · have f1 : hrF J 95 z = 1 := if_pos (by rw [q1]; exact c1)
    have g1 : inF z 0 (K 508 15 - 1) = 1 := if_pos (by omega)
    by_cases c2 : 0 ≤ c ∧ c < K 509 0
    · have f2 : icF J c = 1 := if_pos (by rw [q2]; exact c2)
      have g2 : inF c 0 (K 509 0 - 1) = 1 := if_pos (by omega)
      have ht : tVt K z c = 0 := if_neg (by omega)
      rw [ht, if_pos (Int.le_refl 0)]
      unfold cvR
      rw [if_neg (by omega), if_neg (by omega)]
      refine OK1_ok up_eq ?_
      rw [← hx _ (by omega)]
      have := a10 (94 + 5 + z.toNat) c.toNat 515 (8 * z.toNat + c.toNat) (pr_vr (by omega) (by omega)) (by omega)
      rw [show 95 + 4 + z.toNat = 94 + 5 + z.toNat by omega]
      exact this
    · have f2 : icF J c = 0 := if_neg (by rw [q2]; exact c2)
      have g2 : inF c 0 (K 509 0 - 1) = 0 := if_neg (by omega)
      have ht : tVt K z c = 1 := if_pos (by omega)
      rw [ht, if_neg (by decide)]
      unfold cvR
      rw [if_neg (by omega), if_pos (by omega)]
      exact OK1_e up_eq
  · have f1 : hrF J 95 z = 0 := if_neg (by rw [q1]; exact c1)
    have g1 : inF z 0 (K 508 15 - 1) = 0 := if_neg (by omega)
    have ht : tVt K z c = 1 := if_pos (by omega)
    rw [ht, if_neg (by decide)]
    unfold cvR
    rw [if_pos (by omega)]
    exact OK1_e up_eq
theorem s_round {I : II} {sl : Nat → Nat} {z c : Int} (h : IV I sl) : IV (rdR I z c).2 sl ∧ ∃ K, knO (rdR I z c).2 = some K ∧ KO K ∧ IV (rdM K z c).2 sl ∧ OK2 IOB IAE (rdR I z c) (rdM K z c).1 (rdM K z c).2 := by
  obtain ⟨h1, h10, hlo, hhi⟩ := IV_ct h
  unfold rdR
  generalize ctM I = J at h1 h10
  obtain ⟨K, n, w, R, hK, hIV, hR, hx, h0⟩ := IV_q h1 h10
  have e2 : (if hrF J (94 + 1) z = 0 then erI IOB J else if c < 0 ∨ 6 < c then erI IAE J else okI (J (94 + 19 + 1 + c.toNat) z.toNat) J).2 = J := by split <;> (try split) <;> rfl
  have ht : 0 ≤ tRd K z c ∧ tRd K z c ≤ 2 := by unfold tRd; split <;> (try split) <;> omega
  rw [e2]
  refine ⟨h1, K, hK, (hR.ko hIV.mi).2, IV_thr hIV ht, ?_⟩
  obtain ⟨a1, a2, a3, a4, a5, a6, a7, a8, a9, a10, a11, a12, a13, a14⟩ := hR
  have q1 : J 95 0 = (R : Int) := by rw [← hx 95 (by omega)]; exact a4
  show OK2 IOB IAE _ (if tRd K z c ≤ 0 then K (516 + c.toNat) z.toNat else 0) (up K 508 6 (tRd K z c))
  by_cases c1 : 0 ≤ z ∧ z < (R : Int)
  · have f1 : hrF J (94 + 1) z = 1 := if_pos (by rw [q1]; exact c1)
    have g1 : inF z 0 (K 508 15 - 1) = 1 := if_pos (by omega)
    by_cases c2 : 0 ≤ c ∧ c ≤ 6
    · have g2 : inF c 0 6 = 1 := if_pos c2
      have ht : tRd K z c = 0 := by unfold tRd; rw [if_neg (by omega), if_neg (by omega)]
      rw [ht, if_pos (Int.le_refl 0), if_neg (by omega), if_neg (by omega)]
      refine OK2_ok up_eq ?_
      rw [← hx _ (by omega)]
      exact a10 (94 + 20 + c.toNat) z.toNat (516 + c.toNat) z.toNat (pr_lg (by omega) (by omega)) (by omega)
    · have g2 : inF c 0 6 = 0 := if_neg c2
      have ht : tRd K z c = 2 := by unfold tRd; rw [if_neg (by omega), if_pos (by omega)]
      rw [ht, if_neg (show ¬ (2 : Int) ≤ 0 by decide), if_neg (by omega), if_pos (by omega)]
      exact OK2_e2 up_eq
  · have f1 : hrF J (94 + 1) z = 0 := if_neg (by rw [q1]; exact c1)
    have g1 : inF z 0 (K 508 15 - 1) = 0 := if_neg (by omega)
    have ht : tRd K z c = 1 := if_pos (by omega)
    rw [ht, if_neg (show ¬ (1 : Int) ≤ 0 by decide), if_pos (by omega)]
    exact OK2_e1 up_eq
theorem s_where {I : II} {sl : Nat → Nat} {z p c : Int} (h : IV I sl) : IV (whR I z p c).2 sl ∧ ∃ K, knO (whR I z p c).2 = some K ∧ KO K ∧ IV (whM K z p c).2 sl ∧ OK2 IOB IAE (whR I z p c) (whM K z p c).1 (whM K z p c).2 := by
  obtain ⟨h1, h10, hlo, hhi⟩ := IV_ct h
  unfold whR
  generalize ctM I = J at h1 h10
  obtain ⟨K, n, w, R, hK, hIV, hR, hx, h0⟩ := IV_q h1 h10
  have e2 : (if hrF J (94 + 1) z = 0 then erI IOB J else if ilF J p = 0 then erI IOB J else if c = 0 then okI (J (94 + 19 + 9 + z.toNat) p.toNat) J else if c = 1 then okI (J (94 + 19 + 19 + z.toNat) p.toNat) J else erI IAE J).2 = J := by split <;> (try split) <;> (try split) <;> (try split) <;> rfl
  have ht : 0 ≤ tWh K z p c ∧ tWh K z p c ≤ 2 := by unfold tWh; split <;> (try split) <;> omega
  rw [e2]
  refine ⟨h1, K, hK, (hR.ko hIV.mi).2, IV_thr hIV ht, ?_⟩
  obtain ⟨a1, a2, a3, a4, a5, a6, a7, a8, a9, a10, a11, a12, a13, a14⟩ := hR
  have q1 : J 95 0 = (R : Int) := by rw [← hx 95 (by omega)]; exact a4
  have q2 : J 1 4 = (n : Int) := by rw [← hx 1 (by omega)]; exact a8
  show OK2 IOB IAE _ (if tWh K z p c ≤ 0 then (if c = 0 then K 523 (25 * z.toNat + p.toNat) else K 524 (25 * z.toNat + p.toNat)) else 0) (up K 508 6 (tWh K z p c))
  by_cases c1 : 0 ≤ z ∧ z < (R : Int)
  · have f1 : hrF J (94 + 1) z = 1 := if_pos (by rw [q1]; exact c1)
    have g1 : inF z 0 (K 508 15 - 1) = 1 := if_pos (by omega)
    by_cases c2 : 0 ≤ p ∧ p < (n : Int)
    · have f2 : ilF J p = 1 := if_pos (by rw [q2]; exact c2)
      have g2 : inF p 0 (K 509 1 - 1) = 1 := if_pos (by omega)
      by_cases c3 : 0 ≤ c ∧ c ≤ 1
      · have g3 : inF c 0 1 = 1 := if_pos c3
        have ht : tWh K z p c = 0 := by unfold tWh; rw [if_neg (by omega), if_neg (by omega)]
        rw [ht, if_pos (Int.le_refl 0), if_neg (by omega), if_neg (by omega)]
        by_cases c4 : c = 0
        · rw [if_pos c4, if_pos c4]
          refine OK2_ok up_eq ?_
          rw [← hx _ (by omega)]
          exact a10 (94 + 28 + z.toNat) p.toNat 523 (25 * z.toNat + p.toNat) (pr_hr (by omega) (by omega)) (by omega)
        · rw [if_neg c4, if_neg c4, if_pos (by omega)]
          refine OK2_ok up_eq ?_
          rw [← hx _ (by omega)]
          exact a10 (94 + 38 + z.toNat) p.toNat 524 (25 * z.toNat + p.toNat) (pr_wr (by omega) (by omega)) (by omega)
      · have g3 : inF c 0 1 = 0 := if_neg c3
        have ht : tWh K z p c = 2 := by unfold tWh; rw [if_neg (by omega), if_pos (by omega)]
        rw [ht, if_neg (show ¬ (2 : Int) ≤ 0 by decide), if_neg (by omega), if_neg (by omega), if_neg (by omega), if_neg (by omega)]
        exact OK2_e2 up_eq
    · have f2 : ilF J p = 0 := if_neg (by rw [q2]; exact c2)
      have g2 : inF p 0 (K 509 1 - 1) = 0 := if_neg (by omega)
      have ht : tWh K z p c = 1 := if_pos (by omega)
      rw [ht, if_neg (show ¬ (1 : Int) ≤ 0 by decide), if_neg (by omega), if_pos (by omega)]
      exact OK2_e1 up_eq
  · have f1 : hrF J (94 + 1) z = 0 := if_neg (by rw [q1]; exact c1)
    have g1 : inF z 0 (K 508 15 - 1) = 0 := if_neg (by omega)
    have ht : tWh K z p c = 1 := if_pos (by omega)
    rw [ht, if_neg (show ¬ (1 : Int) ≤ 0 by decide), if_pos (by omega)]
    exact OK2_e1 up_eq
theorem s_elected {I : II} {sl : Nat → Nat} {z : Int} (h : IV I sl) : IV (elR I z).2 sl ∧ ∃ K, knO (elR I z).2 = some K ∧ KO K ∧ IV (edM K z).2 sl ∧ OK1 NSE (elR I z) (edM K z).1 (edM K z).2 := by
  obtain ⟨h1, h10, hlo, hhi⟩ := IV_ct h
  unfold elR
  generalize ctM I = J at h1 h10
  obtain ⟨K, n, w, R, hK, hIV, hR, hx, h0⟩ := IV_q h1 h10
  have e2 : (if z < 0 ∨ J (94 + 1) 1 ≤ z then erI NSE J else okI (J (94 + 1 + 1) z.toNat) J).2 = J := by split <;> rfl
  have ht : 0 ≤ tEl K z ∧ tEl K z ≤ 2 := by unfold tEl; split <;> omega
  rw [e2]
  refine ⟨h1, K, hK, (hR.ko hIV.mi).2, IV_thr hIV ht, ?_⟩
  obtain ⟨a1, a2, a3, a4, a5, a6, a7, a8, a9, a10, a11, a12, a13, a14⟩ := hR
  have q1 : J (94 + 1) 1 = (w : Int) := by rw [← hx _ (by omega)]; exact a6
  show OK1 NSE _ (if tEl K z ≤ 0 then K 530 z.toNat else 0) (up K 508 6 (tEl K z))
  by_cases c1 : 0 ≤ z ∧ z < (w : Int)
  · have g1 : inF z 0 (K 508 32 - 1) = 1 := if_pos (by omega)
    have ht : tEl K z = 0 := if_neg (by omega)
    rw [ht, if_pos (Int.le_refl 0), if_neg (by omega)]
    refine OK1_ok up_eq ?_
    rw [← hx _ (by omega)]
    exact a10 (94 + 2) z.toNat 530 z.toNat (pr_or (by omega)) (by omega)
  · have g1 : inF z 0 (K 508 32 - 1) = 0 := if_neg (by omega)
    have ht : tEl K z = 1 := if_pos (by omega)
    rw [ht, if_neg (show ¬ (1 : Int) ≤ 0 by decide), if_pos (by omega)]
    exact OK1_e up_eq
