/-! CALLS: count, declare, recount -/
theorem s_count {I : II} {sl : Nat → Nat} {w : Int} (h : IV I sl) : IV (knR I w).2 sl ∧ ∃ K9, (tKn (knR I w).2 w = 0 → w = 3 → ∃ K, knO (up (knR I w).2 508 6 0) = some K ∧ K = K9) ∧ IV (if tKn (knR I w).2 w ≤ 0 then (if w = 3 then (K9 508 32, K9) else (knA (knR I w).2 w, up (knR I w).2 508 6 0)) else (0, up (knR I w).2 508 6 (tKn (knR I w).2 w))).2 sl ∧ OK1 IAE (knR I w) (if tKn (knR I w).2 w ≤ 0 then (if w = 3 then (K9 508 32, K9) else (knA (knR I w).2 w, up (knR I w).2 508 6 0)) else (0, up (knR I w).2 508 6 (tKn (knR I w).2 w))).1 (if tKn (knR I w).2 w ≤ 0 then (if w = 3 then (K9 508 32, K9) else (knA (knR I w).2 w, up (knR I w).2 508 6 0)) else (0, up (knR I w).2 508 6 (tKn (knR I w).2 w))).2 := by
  obtain ⟨m, hm, hE⟩ := id h.2.2.2.2.2.1
  by_cases h3 : w = 3
  · subst h3
    obtain ⟨h1, h10, hlo, hhi⟩ := IV_ct h
    have e : knR I 3 = okI (ctM I 95 1) (ctM I) := rfl
    rw [e]
    show IV (ctM I) sl ∧ ∃ K9, (tKn (ctM I) 3 = 0 → (3 : Int) = 3 → ∃ K, knO (up (ctM I) 508 6 0) = some K ∧ K = K9) ∧ _
    have ht : tKn (ctM I) 3 = 0 := if_neg (fun hc => by have := hc.1; exact absurd this (by decide))
    obtain ⟨K, n, w, R, hK, hIV, hR, hx, h0⟩ := IV_q (IV_thr (t := 0) h1 (by omega)) (by rw [up_ne (by omega)]; exact h10)
    refine ⟨h1, K, fun _ _ => ⟨K, hK, rfl⟩, ?_⟩
    show IV (if tKn (ctM I) 3 ≤ 0 then (if (3 : Int) = 3 then (K 508 32, K) else (knA (ctM I) 3, up (ctM I) 508 6 0)) else (0, up (ctM I) 508 6 (tKn (ctM I) 3))).2 sl ∧ OK1 IAE (okI (ctM I 95 1) (ctM I)) (if tKn (ctM I) 3 ≤ 0 then (if (3 : Int) = 3 then (K 508 32, K) else (knA (ctM I) 3, up (ctM I) 508 6 0)) else (0, up (ctM I) 508 6 (tKn (ctM I) 3))).1 (if tKn (ctM I) 3 ≤ 0 then (if (3 : Int) = 3 then (K 508 32, K) else (knA (ctM I) 3, up (ctM I) 508 6 0)) else (0, up (ctM I) 508 6 (tKn (ctM I) 3))).2
    rw [ht, if_pos (Int.le_refl 0), if_pos rfl]
    refine ⟨hIV, OK1_ok ?_ ?_⟩
    · obtain ⟨K', hK', _, _, _, _, hf⟩ := IV_kn (IV_thr (t := 0) h1 (by omega))
      rw [hK] at hK'
      cases hK'
      show K 508 6 = 0
      rw [hf 6 (by omega) (by omega) (by omega) (by omega) (by omega) (by omega) (by omega)]
      exact up_eq
    · obtain ⟨a1, a2, a3, a4, a5, a6, a7, a8, a9, a10, a11, a12, a13, a14⟩ := hR
      show ctM I 95 1 = K 508 32
      have h3 : K 95 = ctM I 95 := (hx 95 (by omega)).trans (up_ne (by omega))
      rw [← h3, a6, a7]
  · have e2 : (knR I w).2 = I := by
      unfold knR
      rw [if_neg h3]
      repeat' split
      all_goals rfl
    rw [e2]
    refine ⟨h, I, fun _ h9 => absurd h9 h3, ?_⟩
    have w0 := h.mi.1.1
    have e0 := hE.1.1
    by_cases hok : inF w 0 6 = 0 ∧ inF w 10 13 = 0 ∧ (w < 20 ∨ I 509 0 ≤ w - 20)
    · have ht : tKn I w = 1 := if_pos hok
      rw [ht, if_neg (by decide)]
      refine ⟨IV_thr h (by omega), ?_⟩
      rw [inF_0, inF_0] at hok
      unfold knR
      rw [if_neg (by omega), if_neg (by omega), if_neg (by omega), if_neg h3, if_neg (by omega), if_neg (by omega), if_neg (by omega), if_neg (by omega), if_neg (by omega)]
      dsimp only
      exact OK1_e up_eq
    · have ht : tKn I w = 0 := if_neg hok
      rw [ht, if_pos (Int.le_refl 0), if_neg h3]
      refine ⟨IV_thr h (by omega), ?_⟩
      rw [inF_0, inF_0] at hok
      dsimp only
      unfold knR knA
      by_cases c0 : w = 0
      · rw [if_pos c0, if_pos c0]; exact OK1_ok up_eq e0
      rw [if_neg c0, if_neg c0]
      by_cases c1 : w = 1
      · rw [if_pos c1, if_pos c1]; exact OK1_ok up_eq (hE.1.2.2.1.trans hE.1.2.2.2.1.symm)
      rw [if_neg c1, if_neg c1]
      by_cases c2 : w = 2
      · rw [if_pos c2, if_pos c2]; exact OK1_ok up_eq (EL_ps hE)
      rw [if_neg c2, if_neg c2, if_neg h3]
      by_cases c4 : w = 4
      · rw [if_pos c4, if_pos c4]; exact OK1_ok up_eq (by rw [hE.1.2.1])
      rw [if_neg c4, if_neg c4]
      by_cases c5 : w = 5
      · rw [if_pos c5, if_pos c5]; exact OK1_ok up_eq h.2.2.2.2.1.2.1
      rw [if_neg c5, if_neg c5]
      by_cases c6 : w = 6
      · rw [if_pos c6, if_pos c6]; exact OK1_ok up_eq h.2.2.2.1.2.1
      rw [if_neg c6, if_neg c6]
      by_cases c7 : 10 ≤ w ∧ w < 14
      · rw [if_pos c7, if_pos (by omega)]; exact OK1_ok up_eq (hE.2.2.1 (w - 10).toNat (by omega))
      · rw [if_neg c7, if_pos (by omega), if_neg (by omega)]; exact OK1_ok up_eq (hE.2.1 (w - 20).toNat (by omega))
/-- a result's copy -/
theorem cpyR_v {I : II} {s d : Nat} (h : s + 13 ≤ d ∨ d + 13 ≤ s) : cpyR I s d d 0 = I s 0 ∧ cpyR I s d d 1 = I s 1 ∧ (∀ k, k < 8 → cpyR I s d (d + 1) k = I (s + 1) k) ∧ (∀ k, k < 8 → cpyR I s d (d + 2) k = I (s + 2) k) ∧ ∀ r k, r < 9 → k < 8 → cpyR I s d (d + 4 + r) k = I (s + 4 + r) k := by
  have hlow : ∀ n : Nat, ∀ Y : II, ∀ x, x < d + 4 ∨ d + 4 + n ≤ x → foldUp (fun k J => cpy J (s + 4 + k) (d + 4 + k) 0 0 8) Y n x = Y x := by
    intro n Y
    induction n with
    | zero => intro x _; rfl
    | succ n ih =>
      intro x hx
      show cpy _ (s + 4 + n) (d + 4 + n) 0 0 8 x = _
      rw [cpy_ne (by omega)]
      exact ih x (by omega)
  have hrow : ∀ n : Nat, n ≤ 9 → ∀ Y : II, ∀ r k, r < n → k < 8 → foldUp (fun k J => cpy J (s + 4 + k) (d + 4 + k) 0 0 8) Y n (d + 4 + r) k = Y (s + 4 + r) k := by
    intro n
    induction n with
    | zero => intro _ Y r k hr; omega
    | succ n ih =>
      intro hn Y r k hr hk
      show cpy (foldUp (fun k J => cpy J (s + 4 + k) (d + 4 + k) 0 0 8) Y n) (s + 4 + n) (d + 4 + n) 0 0 8 (d + 4 + r) k = _
      by_cases hrn : r = n
      · subst hrn
        rw [cpy_in hk, hlow r Y (s + 4 + r) (by omega)]
      · rw [cpy_ne (by omega)]
        exact ih (by omega) Y r k (by omega) hk
  unfold cpyR
  refine ⟨?_, ?_, fun k hk => ?_, fun k hk => ?_, fun r k hr hk => ?_⟩
  · rw [hlow 9 _ d (by omega), cpy_ne (by omega), cpy_ne (by omega), up_nk (by omega), up_eq]
  · rw [hlow 9 _ d (by omega), cpy_ne (by omega), cpy_ne (by omega), up_eq, up_ne (by omega)]
  · rw [hlow 9 _ (d + 1) (by omega), cpy_ne (by omega), cpy_in hk, up_ne (by omega), up_ne (by omega)]
  · rw [hlow 9 _ (d + 2) (by omega), cpy_in hk, cpy_ne (by omega), up_ne (by omega), up_ne (by omega)]
  · rw [hrow 9 (by omega) _ r k hr hk, cpy_ne (by omega), cpy_ne (by omega), up_ne (by omega), up_ne (by omega)]
theorem deM_o {K : II} {x : Nat} (h : x ≠ 508) (h2 : x < 537 ∨ 539 < x) : deM K x = K x := by
  unfold deM
  rw [cpy_ne (by omega), cpy_ne (by omega), cpy_ne (by omega), up_ne h, up_ne h, up_ne h]
theorem deM_8 {K : II} {k : Nat} (h3 : k ≠ 43) (h4 : k ≠ 44) (h5 : k ≠ 45) : deM K 508 k = K 508 k := by
  unfold deM
  rw [cpy_ne (by omega), cpy_ne (by omega), cpy_ne (by omega), up_nk h5, up_nk h4, up_nk h3]
theorem deM_v {K : II} : deM K 508 43 = 1 ∧ deM K 508 44 = K 508 15 ∧ deM K 508 45 = K 508 32 ∧ (∀ j, j < 192 → deM K 537 j = K 515 j) ∧ (∀ j, j < 8 → deM K 538 j = K 525 j) ∧ ∀ j, j < 8 → deM K 539 j = K 530 j := by
  unfold deM
  refine ⟨?_, ?_, ?_, fun j hj => ?_, fun j hj => ?_, fun j hj => ?_⟩
  · rw [cpy_ne (by omega), cpy_ne (by omega), cpy_ne (by omega), up_nk (by omega), up_nk (by omega), up_eq]
  · rw [cpy_ne (by omega), cpy_ne (by omega), cpy_ne (by omega), up_nk (by omega), up_eq]
  · rw [cpy_ne (by omega), cpy_ne (by omega), cpy_ne (by omega), up_eq]
  · rw [cpy_ne (by omega), cpy_ne (by omega), cpy_in hj, up_ne (by omega), up_ne (by omega), up_ne (by omega)]
  · rw [cpy_ne (by omega), cpy_in hj, cpy_ne (by omega), up_ne (by omega), up_ne (by omega), up_ne (by omega)]
  · rw [cpy_in hj, cpy_ne (by omega), cpy_ne (by omega), up_ne (by omega), up_ne (by omega), up_ne (by omega)]
theorem rg_deM {K : II} (h : RG K) : RG (deM K) := by
  unfold deM
  exact rg_cpy (rg_cpy (rg_cpy (rg_up (rg_up (rg_up h (by omega)) (h 508 15)) (h 508 32))))
/-- a declaration: the class's cells and the model's -/
theorem s_declare {I : II} {sl : Nat → Nat} (h : IV I sl) : MI (dcM I) ∧ ∃ K, knO (up (dcM I) 508 6 0) = some K ∧ IV (deM K) sl ∧ dcM I 451 1 = K 508 32 := by
  obtain ⟨h1, h10, hlo, hhi⟩ := IV_ct h
  obtain ⟨i1, i2, i3, i4, i5, i6, i7, i8, i9, i10, i11, i12⟩ := id h1
  have hv := cpyR_v (I := ctM I) (s := 95) (d := 451) (by omega)
  have hD : ∀ x, x ≠ 0 → x < 451 ∨ 464 ≤ x → dcM I x = ctM I x := fun x hx hx2 => by
    unfold dcM
    rw [up_ne hx, cpyR_e (by omega)]
  have hD0 : ∀ k, k ≠ 11 → dcM I 0 k = ctM I 0 k := fun k hk => by
    unfold dcM
    rw [up_nk hk, cpyR_e (by omega)]
  have hD1 : dcM I 0 11 = 1 := up_eq
  have hDr : ∀ x, x ≠ 0 → dcM I x = cpyR (ctM I) 95 451 x := fun x hx => up_ne hx
  have hR : RG (dcM I) := rg_up (rg_cpyR h1.rg) (by omega)
  have hMI : MI (dcM I) := ⟨WfM_of h1.mi.1 (hD 509 (by omega) (by omega)), hR⟩
  have hQ : QV (up (dcM I) 508 6 0) := by
    have hx : ∀ x, x ≠ 0 → x ≠ 508 → x < 451 ∨ 464 ≤ x → up (dcM I) 508 6 0 x = ctM I x := fun x a b c => (up_ne b).trans (hD x a c)
    have h8 : ∀ k, k ≠ 6 → up (dcM I) 508 6 0 508 k = ctM I 508 k := fun k hk => (up_nk hk).trans (by rw [hD 508 (by omega) (by omega)])
    refine ⟨CI_of i1.1 (WfE_of i1.1.1 fun x _ _ => hx x (by omega) (by omega) (by omega)) (rg_up hR (by omega)) fun x _ _ => hx x (by omega) (by omega) (by omega), MI_up hMI (by omega) (by omega), ELp_of i6 (fun x _ _ => hx x (by omega) (by omega) (by omega)) (hx _ (by omega) (by omega) (by omega)), CNT_of i11 ?_ (fun x _ _ => hx x (by omega) (by omega) (by omega)) (fun x _ _ => hx x (by omega) (by omega) (by omega)), CNM_of i12 (h8 _ (by omega)) (fun j _ => by rw [hx 509 (by omega) (by omega) (by omega)]) (fun x _ _ => hx x (by omega) (by omega) (by omega)) (h8 _ (by omega)) (h8 _ (by omega))⟩
    rw [up_ne (by omega), hD0 10 (by omega)]
  obtain ⟨K, hK, hQK, h14, klo, khi, kf⟩ := QV_kn hQ
  obtain ⟨n, w, R, hRS⟩ := QV_rss hQK (by rw [klo 0 (by omega) (by omega), up_ne (by omega), hD0 10 (by omega)]; exact h10) h14
  obtain ⟨a1, a2, a3, a4, a5, a6, a7, a8, a9, a10, a11, a12, a13, a14⟩ := hRS
  obtain ⟨v1, v2, v3, v4, v5, v6⟩ := deM_v (K := K)
  have kD : ∀ x, x < 508 → K x = dcM I x := fun x hx => (klo x (by omega) (by omega)).trans (up_ne (by omega))
  have kC : ∀ x, x ≠ 0 → x < 451 ∨ (464 ≤ x ∧ x < 508) → K x = ctM I x := fun x a b => (kD x (by omega)).trans (hD x a (by omega))
  have F : ∀ x, x < 508 → deM K x = dcM I x := fun x hx => (deM_o (by omega) (by omega)).trans (kD x hx)
  have FC : ∀ x, x ≠ 0 → x < 451 ∨ (464 ≤ x ∧ x < 515 ∧ x ≠ 508) ∨ x = 540 → deM K x = ctM I x := fun x a b => by
    rw [deM_o (by omega) (by omega)]
    by_cases hx : x < 537
    · rw [klo x (by omega) (by omega), up_ne (by omega), hD x a (by omega)]
    · rw [khi x (by omega), up_ne (by omega), hD x a (by omega)]
  have F0 : ∀ k, k ≠ 11 → deM K 0 k = ctM I 0 k := fun k hk => by rw [F 0 (by omega), hD0 k hk]
  have F8 : ∀ k, k ≠ 6 → k ≠ 14 → k ≠ 15 → k ≠ 32 → k ≠ 39 → k ≠ 40 → k ≠ 41 → k ≠ 42 → k ≠ 43 → k ≠ 44 → k ≠ 45 → deM K 508 k = ctM I 508 k := fun k b0 b1 b2 b3 b4 b5 b6 b7 b8 b9 b10 => by
    rw [deM_8 b8 b9 b10, kf k b1 b2 b3 b4 b5 b6 b7, up_nk b0, hD 508 (by omega) (by omega)]
  have hRF : RG (deM K) := rg_deM hQK.2.1.2
  obtain ⟨k1, k2, k3, k4, k5, k6, k7, k8, k9, k10, k11, k12, k13, k14⟩ := id i1
  have hc95 : ∀ x, 94 ≤ x → x < 146 → ctM I x = K x := fun x a b => (kC x (by omega) (by omega)).symm
  refine ⟨hMI, K, hK, ⟨⟨?_, ?_, ?_, ?_, ?_, ?_, ?_, ?_, ?_, ?_, ?_, ?_, ?_, ?_⟩, i2, ?_, ?_, ?_, ?_, ?_, ?_, ?_, ?_, ?_, ?_⟩, ?_⟩
  · exact CI_of k1 (WfE_of k1.1 fun x _ _ => FC x (by omega) (by omega)) hRF fun x _ _ => FC x (by omega) (by omega)
  · rw [FC 1 (by omega) (by omega)]; exact k2
  · exact CI_of k3 (WfE_of k3.1 fun x _ _ => FC x (by omega) (by omega)) hRF fun x _ _ => FC x (by omega) (by omega)
  · exact TI0_of k4 (FC _ (by omega) (by omega)) (FC _ (by omega) (by omega)) (FC _ (by omega) (by omega))
  · unfold RI
    rw [F 451 (by omega), hDr 451 (by omega), hv.1, hv.2.1]
    exact k14 h10
  · exact RI_of k6 (FC _ (by omega) (by omega))
  · exact WfT_of k7 fun x _ _ => FC x (by omega) (by omega)
  · rw [FC 201 (by omega) (by omega)]; exact k8
  · intro k hk
    rw [FC 201 (by omega) (by omega)] at hk
    have := i2.1 k (by omega)
    exact WfT_of (k9 k hk) fun x _ _ => FC x (by omega) (by omega)
  · rw [F0 10 (by omega)]; exact k10
  · rw [F 0 (by omega), hD1]; exact Or.inr rfl
  · rw [F0 12 (by omega)]; exact k12
  · rw [F0 13 (by omega)]; exact k13
  · intro _
    exact RI_of (k14 h10) (FC _ (by omega) (by omega))
  · exact TB_of i3 hRF (FC _ (by omega) (by omega)) ⟨F8 _ (by omega) (by omega) (by omega) (by omega) (by omega) (by omega) (by omega) (by omega) (by omega) (by omega) (by omega), F8 _ (by omega) (by omega) (by omega) (by omega) (by omega) (by omega) (by omega) (by omega) (by omega) (by omega) (by omega)⟩ (FC _ (by omega) (by omega)) (FC _ (by omega) (by omega))
  · exact TE_of i4 (FC _ (by omega) (by omega)) (FC _ (by omega) (by omega)) (FC _ (by omega) (by omega)) (F8 _ (by omega) (by omega) (by omega) (by omega) (by omega) (by omega) (by omega) (by omega) (by omega) (by omega) (by omega)) (FC _ (by omega) (by omega))
  · unfold FLs
    rw [FC 198 (by omega) (by omega), FC 201 (by omega) (by omega), F 0 (by omega), hD1, hD0 12 (by omega), v1, F8 11 (by omega) (by omega) (by omega) (by omega) (by omega) (by omega) (by omega) (by omega) (by omega) (by omega) (by omega), F8 3 (by omega) (by omega) (by omega) (by omega) (by omega) (by omega) (by omega) (by omega) (by omega) (by omega) (by omega), F8 5 (by omega) (by omega) (by omega) (by omega) (by omega) (by omega) (by omega) (by omega) (by omega) (by omega) (by omega)]
    exact ⟨i5.1, i5.2.1, rfl, i5.2.2.2⟩
  · exact ELp_of i6 (fun x _ _ => FC x (by omega) (by omega)) (FC _ (by omega) (by omega))
  · exact HSt_of i7 i2.1 k8 (by rw [FC 201 (by omega) (by omega)]) (fun x _ _ => FC x (by omega) (by omega)) (FC _ (by omega) (by omega)) (by rw [FC 1 (by omega) (by omega)])
  · intro hc
    exact ELs_of (i8 (by rw [← F0 12 (by omega)]; exact hc)) (fun x _ _ => FC x (by omega) (by omega)) (FC _ (by omega) (by omega))
  · intro _
    have e0 : K 1 0 = K 509 0 := by
      obtain ⟨m, hm, hE⟩ := hQK.2.2.1
      exact hE.1.1
    refine ⟨fun k c hk hc hn => ?_, ?_, ?_, fun k c hk hc => ?_, fun k hk => ?_, fun k hk => ?_⟩
    · rw [v2, a5] at hk
      rw [v4 _ (by omega)]
      refine a14 k c (by omega) hc ?_
      rw [← e0, kD 1 (by omega), ← F 1 (by omega)]
      exact hn
    · rw [F 451 (by omega), hDr 451 (by omega), hv.1, hc95 95 (by omega) (by omega), a4, v2, a5]
    · rw [F 451 (by omega), hDr 451 (by omega), hv.2.1, hc95 95 (by omega) (by omega), a6, v3, a7]
    · rw [v2, a5] at hk
      rw [F _ (by omega), hDr _ (by omega), hv.2.2.2.2 k c (by omega) hc, hc95 _ (by omega) (by omega), v4 _ (by omega), show 95 + 4 + k = 94 + 5 + k by omega]
      exact a10 (94 + 5 + k) c 515 (8 * k + c) (pr_vr (by omega) hc) (by omega)
    · rw [F _ (by omega), hDr _ (by omega), hv.2.2.2.1 k hk, hc95 _ (by omega) (by omega), v5 k hk]
      exact a10 (94 + 3) k 525 k (pr_st hk) (by omega)
    · rw [v3, a7] at hk
      rw [F _ (by omega), hDr _ (by omega), hv.2.2.1 k (by omega), hc95 _ (by omega) (by omega), v6 k (by omega)]
      exact a10 (94 + 2) k 530 k (pr_or (by omega)) (by omega)
  · exact DRs_of i10 i1 (F0 12 (by omega)) (by rw [FC 464 (by omega) (by omega)]) (F0 13 (by omega)) (fun x _ _ => FC x (by omega) (by omega)) (FC _ (by omega) (by omega))
  · exact CNT_of i11 (F0 10 (by omega)) (fun x _ _ => FC x (by omega) (by omega)) (fun x _ _ => FC x (by omega) (by omega))
  · exact CNM_of hQK.2.2.2.2 (deM_8 (by omega) (by omega) (by omega)) (fun j _ => by rw [deM_o (x := 509) (by omega) (by omega)]) (fun x _ _ => deM_o (by omega) (by omega)) (deM_8 (by omega) (by omega) (by omega)) (deM_8 (by omega) (by omega) (by omega))
  · rw [hDr 451 (by omega), hv.2.1, hc95 95 (by omega) (by omega), a6, a7]
