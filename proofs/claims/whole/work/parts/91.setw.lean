/-! set, withdraw, undo, restore -/
theorem EL_set {I J : II} {n a : Nat} {b : Int} (h : EL I 1 J n n) (ha : a < 4) : EL (up I (1 + 1) a b) 1 (up J 509 (3 + a) b) n n := by
  obtain ⟨⟨a1, a2, a3, a4, a5, a6⟩, b1, d, f, g, k⟩ := h
  refine ⟨⟨by rw [up_ne (by omega), up_nk (by omega)]; exact a1, by rw [up_ne (by omega), up_nk (by omega)]; exact a2, by rw [up_ne (by omega)]; exact a3, by rw [up_nk (by omega)]; exact a4, a5, a6⟩, fun i hi => by rw [up_ne (by omega), up_nk (by omega)]; exact b1 i hi, fun i hi => ?_, fun p hp => ?_, fun p h1 h2 => by omega, fun c hc => ?_⟩
  · by_cases hia : i = a
    · subst hia; rw [up_eq, up_eq]
    · rw [up_nk hia, up_nk (by omega)]; exact d i hi
  · have e3 : mLn (up J 509 (3 + a) b) p = mLn J p := up_nk (by omega)
    have e4 : mSz (up J 509 (3 + a) b) p = mSz J p := up_nk (by omega)
    rw [e3, e4, up_ne (by omega), up_ne (by omega), up_ne (by omega)]
    refine ⟨(f p hp).1, (f p hp).2.1, fun i hi => ?_⟩
    rw [(f p hp).2.2 i hi]
    show J 509 (17 + 10 * p + i) = up J 509 (3 + a) b 509 (17 + 10 * p + i)
    rw [up_nk (by omega)]
  · rw [up_nk (by omega)] at hc ⊢
    obtain ⟨i, hi, hi2⟩ := k c hc
    exact ⟨i, hi, by rw [up_nk (by omega)]; exact hi2⟩
theorem EL_wd {I J : II} {n : Nat} {b : Int} (h : EL I 1 J n n) : EL (up I 1 2 b) 1 (up J 509 2 b) n n := by
  obtain ⟨⟨a1, a2, a3, a4, a5, a6⟩, b1, d, f, g, k⟩ := h
  refine ⟨⟨by rw [up_nk (by omega), up_nk (by omega)]; exact a1, by rw [up_eq, up_eq], by rw [up_nk (by omega)]; exact a3, by rw [up_nk (by omega)]; exact a4, a5, a6⟩, fun i hi => by rw [up_ne (by omega), up_nk (by omega)]; exact b1 i hi, fun i hi => by rw [up_ne (by omega), up_nk (by omega)]; exact d i hi, fun p hp => ?_, fun p h1 h2 => by omega, fun c hc => ?_⟩
  · have e3 : mLn (up J 509 2 b) p = mLn J p := up_nk (by omega)
    have e4 : mSz (up J 509 2 b) p = mSz J p := up_nk (by omega)
    rw [e3, e4, up_ne (by omega), up_ne (by omega), up_ne (by omega)]
    refine ⟨(f p hp).1, (f p hp).2.1, fun i hi => ?_⟩
    rw [(f p hp).2.2 i hi]
    show J 509 (17 + 10 * p + i) = up J 509 2 b 509 (17 + 10 * p + i)
    rw [up_nk (by omega)]
  · rw [up_nk (by omega)] at hc ⊢
    obtain ⟨i, hi, hi2⟩ := k c hc
    exact ⟨i, hi, by rw [up_nk (by omega)]; exact hi2⟩
theorem rg_rf {I : II} {n : Nat} {sl : Nat → Nat} (h : RG I) (hn : I 201 1 = (n : Int)) (hn8 : n ≤ 8) : RG (rfM I n sl) := by
  have h1 : RG (reB I 201 n) ∧ 0 ≤ reB I 201 n 201 1 ∧ reB I 201 n 201 1 ≤ 8 := by
    unfold reB
    split
    · exact ⟨h, by omega⟩
    · exact ⟨rg_up h (by omega), by rw [up_eq]; omega⟩
  unfold rfM reM
  exact rg_up (rg_up (rg_cpyE h1.1) (by omega)) (by omega)
theorem s_set {I : II} {sl : Nat → Nat} {a b : Int} {n : Nat} (h : IV I sl) (hn : I 201 1 = (n : Int)) : MI (stR I a b n sl).2 ∧ (0 ≤ (stR I a b n sl).2 508 3 ∧ (stR I a b n sl).2 508 3 ≤ 8) ∧ IV (seM (stR I a b n sl).2 a b).2 (if stB a b then sl else reSl sl n) ∧ OK1 IAE (stR I a b n sl) (seM (stR I a b n sl).2 a b).1 (seM (stR I a b n sl).2 a b).2 := by
  obtain ⟨m, hm, hE⟩ := id h.2.2.2.2.2.1
  have h83 : I 508 3 = (n : Int) := by rw [← h.2.2.2.2.1.2.1]; exact hn
  have hn8 : n ≤ 8 := by have := h.1.2.2.2.2.2.2.2.1; omega
  by_cases c : stB a b
  · have e : stR I a b n sl = erI IAE I := if_pos c
    have ht : tSt a b = 1 := if_pos (by rw [inF_0, inF_0]; unfold stB at c; omega)
    rw [e, if_pos c]
    show MI I ∧ (0 ≤ I 508 3 ∧ I 508 3 ≤ 8) ∧ IV (seM I a b).2 sl ∧ OK1 IAE (erI IAE I) (seM I a b).1 (seM I a b).2
    unfold seM
    rw [ht, if_neg (by decide)]
    exact ⟨h.mi, by omega, IV_thr h (by omega), by dsimp only; exact OK1_e up_eq⟩
  · have e : stR I a b n sl = okI (I (1 + 1) a.toNat) (up (rfM I n sl) (1 + 1) a.toNat b) := if_neg c
    have ht : tSt a b = 0 := if_neg (by rw [inF_0, inF_0]; unfold stB at c; omega)
    have hgs := gs_rng a
    have hls := ls_rng a
    have hab : (0 ≤ a ∧ a < 4) ∧ lsF a ≤ b ∧ b ≤ gsF a := by unfold stB at c; omega
    have hb7 : 0 ≤ b ∧ b ≤ 7 := by omega
    rw [e, if_neg c]
    show MI (up (rfM I n sl) (1 + 1) a.toNat b) ∧ (0 ≤ up (rfM I n sl) (1 + 1) a.toNat b 508 3 ∧ up (rfM I n sl) (1 + 1) a.toNat b 508 3 ≤ 8) ∧ IV (seM (up (rfM I n sl) (1 + 1) a.toNat b) a b).2 (reSl sl n) ∧ OK1 IAE (okI (I (1 + 1) a.toNat) (up (rfM I n sl) (1 + 1) a.toNat b)) (seM (up (rfM I n sl) (1 + 1) a.toNat b) a b).1 (seM (up (rfM I n sl) (1 + 1) a.toNat b) a b).2
    obtain ⟨v1, v2, v3, v4⟩ := rf_v (I := I) (n := n) h.2.1.1
    have hJ : ∀ x, x ≠ 1 + 1 → up (rfM I n sl) (1 + 1) a.toNat b x = rfM I n sl x := fun x hx => up_ne hx
    have hJ2 : up (rfM I n sl) (1 + 1) a.toNat b (1 + 1) = up I (1 + 1) a.toNat b (1 + 1) := by
      rw [up_at, up_at, rf_e h.2.1.1 (by omega) (by omega)]
    have hJR : RG (up (rfM I n sl) (1 + 1) a.toNat b) := rg_up (rg_rf h.rg hn hn8) (by omega)
    generalize up (rfM I n sl) (1 + 1) a.toNat b = J at *
    have hJI : ∀ x, x ≠ 1 + 1 → x ≠ 0 → x < 201 ∨ 451 ≤ x → J x = I x := fun x h1 h2 h3 => by rw [hJ x h1, rf_e h.2.1.1 h3 h2]
    have hJ508 : J 508 = I 508 := hJI 508 (by omega) (by omega) (by omega)
    have hJ509 : J 509 = I 509 := hJI 509 (by omega) (by omega) (by omega)
    unfold seM
    rw [ht, if_pos rfl]
    have hp3 : up J 508 6 0 508 3 = (n : Int) := by rw [up_nk (by omega), hJ508]; exact h83
    obtain ⟨u1, u2, u3⟩ := pu_8 (J := up J 508 6 0) (a := 509) (by omega)
    have u4 := pu_r (J := up J 508 6 0) (a := 509) (by omega) (by omega) hp3 hn8
    have hPR : RG (puM (up J 508 6 0) 509) := rg_pu9 (rg_up hJR (by omega)) (by omega)
    refine ⟨⟨WfM_of h.mi.1 hJ509, hJR⟩, by rw [hJ508]; omega, ?_, ?_⟩
    · show IV (up (puM (up J 508 6 0) 509) 509 (3 + a.toNat) b) (reSl sl n)
      have FX : ∀ x, x ≠ 508 → x ≠ 509 → x ≠ 511 → up (puM (up J 508 6 0) 509) 509 (3 + a.toNat) b x = J x := fun x h1 h2 h3 => by rw [up_ne h2, pu_s h1 h3, up_ne h1]
      have F8 : ∀ k, k ≠ 3 → k ≠ 14 → k ≠ 6 → up (puM (up J 508 6 0) 509) 509 (3 + a.toNat) b 508 k = I 508 k := fun k h1 h2 h3 => by rw [up_ne (by omega), u1 k h1 h2, up_nk h3, hJ508]
      have F9 : up (puM (up J 508 6 0) 509) 509 (3 + a.toNat) b 509 = up I 509 (3 + a.toNat) b 509 := by
        rw [up_at, up_at, pu_s (by omega) (by omega), up_ne (by omega), hJ509]
      have F14 : up (puM (up J 508 6 0) 509) 509 (3 + a.toNat) b 508 14 = 0 := by rw [up_ne (by omega), u2]
      have F3 : up (puM (up J 508 6 0) 509) 509 (3 + a.toNat) b 508 3 = (if I 508 3 = 8 then 8 else I 508 3 + 1) := by rw [up_ne (by omega), u3, hp3, ← h83]
      have F11 : ∀ k j : Nat, j < 265 → k < 8 → k ≤ n → up (puM (up J 508 6 0) 509) 509 (3 + a.toNat) b 511 (265 * k + j) = if n < 8 then (if k = n then I 509 j else I 511 (265 * k + j)) else (if k = 7 then I 509 j else I 511 (265 * (k + 1) + j)) := by
        intro k j h1 h2 h3
        rw [up_ne (by omega), u4 k j h1 h2 h3, up_ne (show (509 : Nat) ≠ 508 by omega), up_ne (show (511 : Nat) ≠ 508 by omega), hJ509, hJI 511 (by omega) (by omega) (by omega)]
      have FR : RG (up (puM (up J 508 6 0) 509) 509 (3 + a.toNat) b) := rg_up hPR (by omega)
      generalize up (puM (up J 508 6 0) 509) 509 (3 + a.toNat) b = F at *
      have FI : ∀ x, x ≠ 1 + 1 → x ≠ 0 → x < 201 ∨ 451 ≤ x → x ≠ 508 → x ≠ 509 → x ≠ 511 → F x = I x := fun x h1 h2 h3 h4 h5 h6 => by rw [FX x h4 h5 h6, hJI x h1 h2 h3]
      have F1 : ∀ x, 1 ≤ x → x < 32 → F x = up I (1 + 1) a.toNat b x := fun x h1 h2 => by
        by_cases hx : x = 1 + 1
        · subst hx; rw [FX _ (by omega) (by omega) (by omega)]; exact hJ2
        · rw [FI x hx (by omega) (by omega) (by omega) (by omega) (by omega), up_ne hx]
      have hWE : WfE (up I (1 + 1) a.toNat b) 1 := WfE_up h.1.1.1 (fun q => by omega) (fun _ => ⟨fun q => ?_, fun q => ?_, fun q => ?_, fun q => ?_⟩) (fun q => by omega) (fun q => by omega) (fun q => by omega) (fun q => by omega)
      have hWM : WfM (up I 509 (3 + a.toNat) b) := WfM_s h.mi.1 (fun q => by omega) (fun q => by omega) (fun q => by omega) (fun _ _ q => by omega) (fun _ _ q => by omega) (fun _ _ _ _ q => by omega) (fun _ _ q => by omega) (fun q => ?_) (fun q => ?_) (fun q => ?_) (fun q => ?_)
      · refine IV_push h (fun _ _ => rfl) hn FR ⟨WfE_of hWE F1, by rw [F1 1 (by omega) (by omega), up_ne (by omega)]; exact h.1.2.1⟩ (WfM_of hWM F9) ⟨m, hm, EL_of (EL_set hE (a := a.toNat) (b := b) (by omega)) (fun x h1 h2 => F1 x h1 (by omega)) F9⟩ (by rw [F1 1 (by omega) (by omega), up_ne (by omega)]) (fun k hk => ?_) ?_ (fun x hx => FI x (by omega) (by omega) (by omega) (by omega) (by omega) (by omega)) (fun x h1 h2 => by rw [FX x (by omega) (by omega) (by omega), hJ x (by omega)]) (by rw [FX 201 (by omega) (by omega) (by omega), hJ 201 (by omega)]) (F8 5 (by omega) (by omega) (by omega)) (F8 43 (by omega) (by omega) (by omega)) (F8 44 (by omega) (by omega) (by omega)) (F8 45 (by omega) (by omega) (by omega)) F14 F3 F11 (FI _ (by omega) (by omega) (by omega) (by omega) (by omega) (by omega)) (FI _ (by omega) (by omega) (by omega) (by omega) (by omega) (by omega)) (FI _ (by omega) (by omega) (by omega) (by omega) (by omega) (by omega)) (FI _ (by omega) (by omega) (by omega) (by omega) (by omega) (by omega)) (FI _ (by omega) (by omega) (by omega) (by omega) (by omega) (by omega)) (TXp_of h (FI _ (by omega) (by omega) (by omega) (by omega) (by omega) (by omega)) (FI _ (by omega) (by omega) (by omega) (by omega) (by omega) (by omega)) (FI _ (by omega) (by omega) (by omega) (by omega) (by omega) (by omega)) (F8 8 (by omega) (by omega) (by omega)) (FI _ (by omega) (by omega) (by omega) (by omega) (by omega) (by omega)) (FI _ (by omega) (by omega) (by omega) (by omega) (by omega) (by omega)) (F8 11 (by omega) (by omega) (by omega)) (F8 13 (by omega) (by omega) (by omega)))
        · rw [FX 0 (by omega) (by omega) (by omega), hJ 0 (by omega)]; exact v3 k hk
        · rw [FX 0 (by omega) (by omega) (by omega), hJ 0 (by omega)]; exact v2
      all_goals
        have ha : a = 0 ∨ a = 1 ∨ a = 2 ∨ a = 3 := by omega
        rcases ha with rfl | rfl | rfl | rfl <;> first | (exfalso; revert q; decide) | (simp [lsF, gsF] at hab; omega)
    · refine OK1_ok ?_ ?_
      · show up (puM (up J 508 6 0) 509) 509 (3 + a.toNat) b 508 6 = 0
        rw [up_ne (by omega), u1 6 (by omega) (by omega), up_eq]
      · show I (1 + 1) a.toNat = J 509 (3 + a.toNat)
        rw [hJ509]
        exact hE.2.2.1 a.toNat (by omega)
theorem s_withdraw {I : II} {sl : Nat → Nat} {c : Int} {n : Nat} (h : IV I sl) (hn : I 201 1 = (n : Int)) : MI (wdR I c n sl).2 ∧ (0 ≤ (wdR I c n sl).2 508 3 ∧ (wdR I c n sl).2 508 3 ≤ 8) ∧ IV (wdM (wdR I c n sl).2 c).2 (if icF I c = 0 then sl else reSl sl n) ∧ OK1 IOB (wdR I c n sl) (wdM (wdR I c n sl).2 c).1 (wdM (wdR I c n sl).2 c).2 := by
  obtain ⟨m, hm, hE⟩ := id h.2.2.2.2.2.1
  have h83 : I 508 3 = (n : Int) := by rw [← h.2.2.2.2.1.2.1]; exact hn
  have hn8 : n ≤ 8 := by have := h.1.2.2.2.2.2.2.2.1; omega
  have e0 := hE.1.1
  have e2w := hE.1.2.1
  by_cases cc : icF I c = 0
  · have hc0 := icF_0 cc
    have e : wdR I c n sl = erI IOB I := if_pos cc
    have ht : tWd I c = 1 := if_pos (by rw [inF_0]; omega)
    rw [e, if_pos cc]
    show MI I ∧ (0 ≤ I 508 3 ∧ I 508 3 ≤ 8) ∧ IV (wdM I c).2 sl ∧ OK1 IOB (erI IOB I) (wdM I c).1 (wdM I c).2
    unfold wdM
    rw [ht, if_neg (by decide)]
    exact ⟨h.mi, by omega, IV_thr h (by omega), by dsimp only; exact OK1_e up_eq⟩
  · have hc1 := icF_1 cc
    have w0 := h.mi.1.1
    have w2 := h.mi.1.2.2.1
    have hxl := xr_lt (I 1 2).toNat (by omega) c.toNat (by omega)
    have e : wdR I c n sl = okI (btI (xr (I 1 2).toNat c.toNat) c.toNat) (up (rfM I n sl) 1 2 (xr (I 1 2).toNat c.toNat : Nat)) := if_neg cc
    rw [e, if_neg cc]
    generalize hX : xr (I 1 2).toNat c.toNat = X at *
    show MI (up (rfM I n sl) 1 2 (X : Int)) ∧ (0 ≤ up (rfM I n sl) 1 2 (X : Int) 508 3 ∧ up (rfM I n sl) 1 2 (X : Int) 508 3 ≤ 8) ∧ IV (wdM (up (rfM I n sl) 1 2 (X : Int)) c).2 (reSl sl n) ∧ OK1 IOB (okI (btI X c.toNat) (up (rfM I n sl) 1 2 (X : Int))) (wdM (up (rfM I n sl) 1 2 (X : Int)) c).1 (wdM (up (rfM I n sl) 1 2 (X : Int)) c).2
    obtain ⟨v1, v2, v3, v4⟩ := rf_v (I := I) (n := n) h.2.1.1
    have hJ : ∀ x, x ≠ 1 → up (rfM I n sl) 1 2 (X : Int) x = rfM I n sl x := fun x hx => up_ne hx
    have hJ2 : up (rfM I n sl) 1 2 (X : Int) 1 = up I 1 2 (X : Int) 1 := by
      rw [up_at, up_at, rf_e h.2.1.1 (by omega) (by omega)]
    have hJR : RG (up (rfM I n sl) 1 2 (X : Int)) := rg_up (rg_rf h.rg hn hn8) (by omega)
    generalize up (rfM I n sl) 1 2 (X : Int) = J at *
    have hJI : ∀ x, x ≠ 1 → x ≠ 0 → x < 201 ∨ 451 ≤ x → J x = I x := fun x h1 h2 h3 => by rw [hJ x h1, rf_e h.2.1.1 h3 h2]
    have hJ508 : J 508 = I 508 := hJI 508 (by omega) (by omega) (by omega)
    have hJ509 : J 509 = I 509 := hJI 509 (by omega) (by omega) (by omega)
    have ht : tWd J c = 0 := if_neg (by rw [inF_0, hJ509]; omega)
    have hX2 : xr (J 509 2).toNat c.toNat = X := by rw [hJ509, ← e2w]; exact hX
    unfold wdM
    rw [ht, if_pos rfl, hX2]
    have hp3 : up J 508 6 0 508 3 = (n : Int) := by rw [up_nk (by omega), hJ508]; exact h83
    obtain ⟨u1, u2, u3⟩ := pu_8 (J := up J 508 6 0) (a := 509) (by omega)
    have u4 := pu_r (J := up J 508 6 0) (a := 509) (by omega) (by omega) hp3 hn8
    have hPR : RG (puM (up J 508 6 0) 509) := rg_pu9 (rg_up hJR (by omega)) (by omega)
    refine ⟨⟨WfM_of h.mi.1 hJ509, hJR⟩, by rw [hJ508]; omega, ?_, ?_⟩
    · show IV (up (puM (up J 508 6 0) 509) 509 2 (X : Int)) (reSl sl n)
      have FX : ∀ x, x ≠ 508 → x ≠ 509 → x ≠ 511 → up (puM (up J 508 6 0) 509) 509 2 (X : Int) x = J x := fun x h1 h2 h3 => by rw [up_ne h2, pu_s h1 h3, up_ne h1]
      have F8 : ∀ k, k ≠ 3 → k ≠ 14 → k ≠ 6 → up (puM (up J 508 6 0) 509) 509 2 (X : Int) 508 k = I 508 k := fun k h1 h2 h3 => by rw [up_ne (by omega), u1 k h1 h2, up_nk h3, hJ508]
      have F9 : up (puM (up J 508 6 0) 509) 509 2 (X : Int) 509 = up I 509 2 (X : Int) 509 := by
        rw [up_at, up_at, pu_s (by omega) (by omega), up_ne (by omega), hJ509]
      have F14 : up (puM (up J 508 6 0) 509) 509 2 (X : Int) 508 14 = 0 := by rw [up_ne (by omega), u2]
      have F3 : up (puM (up J 508 6 0) 509) 509 2 (X : Int) 508 3 = (if I 508 3 = 8 then 8 else I 508 3 + 1) := by rw [up_ne (by omega), u3, hp3, ← h83]
      have F11 : ∀ k j : Nat, j < 265 → k < 8 → k ≤ n → up (puM (up J 508 6 0) 509) 509 2 (X : Int) 511 (265 * k + j) = if n < 8 then (if k = n then I 509 j else I 511 (265 * k + j)) else (if k = 7 then I 509 j else I 511 (265 * (k + 1) + j)) := by
        intro k j h1 h2 h3
        rw [up_ne (by omega), u4 k j h1 h2 h3, up_ne (show (509 : Nat) ≠ 508 by omega), up_ne (show (511 : Nat) ≠ 508 by omega), hJ509, hJI 511 (by omega) (by omega) (by omega)]
      have FR : RG (up (puM (up J 508 6 0) 509) 509 2 (X : Int)) := rg_up hPR (by omega)
      generalize up (puM (up J 508 6 0) 509) 509 2 (X : Int) = F at *
      have FI : ∀ x, x ≠ 1 → x ≠ 0 → x < 201 ∨ 451 ≤ x → x ≠ 508 → x ≠ 509 → x ≠ 511 → F x = I x := fun x h1 h2 h3 h4 h5 h6 => by rw [FX x h4 h5 h6, hJI x h1 h2 h3]
      have F1 : ∀ x, 1 ≤ x → x < 32 → F x = up I 1 2 (X : Int) x := fun x h1 h2 => by
        by_cases hx : x = 1
        · subst hx; rw [FX _ (by omega) (by omega) (by omega)]; exact hJ2
        · rw [FI x hx (by omega) (by omega) (by omega) (by omega) (by omega), up_ne hx]
      have hWE : WfE (up I 1 2 (X : Int)) 1 := WfE_up h.1.1.1 (fun _ => ⟨fun q => by omega, fun _ => by omega, fun q => by omega⟩) (fun q => by omega) (fun q => by omega) (fun q => by omega) (fun q => by omega) (fun q => by omega)
      have hWM : WfM (up I 509 2 (X : Int)) := WfM_s h.mi.1 (fun q => by omega) (fun q => by omega) (fun q => by omega) (fun _ _ q => by omega) (fun _ _ q => by omega) (fun _ _ _ _ q => by omega) (fun _ _ q => by omega) (fun q => by omega) (fun q => by omega) (fun q => by omega) (fun q => by omega)
      refine IV_push h (fun _ _ => rfl) hn FR ⟨WfE_of hWE F1, by rw [F1 1 (by omega) (by omega), up_nk (by omega)]; exact h.1.2.1⟩ (WfM_of hWM F9) ⟨m, hm, EL_of (EL_wd hE (b := (X : Int))) (fun x h1 h2 => F1 x h1 (by omega)) F9⟩ (by rw [F1 1 (by omega) (by omega), up_nk (by omega)]) (fun k hk => ?_) ?_ (fun x hx => FI x (by omega) (by omega) (by omega) (by omega) (by omega) (by omega)) (fun x h1 h2 => by rw [FX x (by omega) (by omega) (by omega), hJ x (by omega)]) (by rw [FX 201 (by omega) (by omega) (by omega), hJ 201 (by omega)]) (F8 5 (by omega) (by omega) (by omega)) (F8 43 (by omega) (by omega) (by omega)) (F8 44 (by omega) (by omega) (by omega)) (F8 45 (by omega) (by omega) (by omega)) F14 F3 F11 (FI _ (by omega) (by omega) (by omega) (by omega) (by omega) (by omega)) (FI _ (by omega) (by omega) (by omega) (by omega) (by omega) (by omega)) (FI _ (by omega) (by omega) (by omega) (by omega) (by omega) (by omega)) (FI _ (by omega) (by omega) (by omega) (by omega) (by omega) (by omega)) (FI _ (by omega) (by omega) (by omega) (by omega) (by omega) (by omega)) (TXp_of h (FI _ (by omega) (by omega) (by omega) (by omega) (by omega) (by omega)) (FI _ (by omega) (by omega) (by omega) (by omega) (by omega) (by omega)) (FI _ (by omega) (by omega) (by omega) (by omega) (by omega) (by omega)) (F8 8 (by omega) (by omega) (by omega)) (FI _ (by omega) (by omega) (by omega) (by omega) (by omega) (by omega)) (FI _ (by omega) (by omega) (by omega) (by omega) (by omega) (by omega)) (F8 11 (by omega) (by omega) (by omega)) (F8 13 (by omega) (by omega) (by omega)))
      · rw [FX 0 (by omega) (by omega) (by omega), hJ 0 (by omega)]; exact v3 k hk
      · rw [FX 0 (by omega) (by omega) (by omega), hJ 0 (by omega)]; exact v2
    · refine OK1_ok ?_ ?_
      · show up (puM (up J 508 6 0) 509) 509 2 (X : Int) 508 6 = 0
        rw [up_ne (by omega), u1 6 (by omega) (by omega), up_eq]
      · rfl
