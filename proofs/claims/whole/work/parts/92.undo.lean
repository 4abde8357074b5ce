/-! undo, restore -/
theorem s_undo {I : II} {sl : Nat → Nat} (h : IV I sl) : (0 ≤ (udR I sl).2 508 3 ∧ (udR I sl).2 508 3 ≤ 8) ∧ IV (unM (udR I sl).2).2 sl ∧ OK1 ISE (udR I sl) (unM (udR I sl).2).1 (unM (udR I sl).2).2 := by
  have h21 := h.2.2.2.2.1.2.1
  have hc := h.1.2.2.2.2.2.2.2.1
  by_cases c : I 201 1 = 0
  · have e : udR I sl = erI ISE I := if_pos c
    have ht : tUn I = 1 := if_pos (by omega)
    rw [e]
    show (0 ≤ I 508 3 ∧ I 508 3 ≤ 8) ∧ IV (unM I).2 sl ∧ OK1 ISE (erI ISE I) (unM I).1 (unM I).2
    unfold unM
    rw [ht, if_neg (by decide)]
    exact ⟨by omega, IV_thr h (by omega), by dsimp only; exact OK1_e up_eq⟩
  · obtain ⟨q, hq⟩ : ∃ q : Nat, I 201 1 = (q : Int) + 1 := ⟨(I 201 1 - 1).toNat, by omega⟩
    have e : udR I sl = okI (I 201 1 - 1) (up (cpyE (up I 201 1 (I 201 1 - 1)) (sl (I 201 1 - 1).toNat) 1) 0 10 0) := if_neg c
    have hqn : I 201 1 - 1 = (q : Int) := by omega
    rw [e, hqn, Int.toNat_natCast]
    show (0 ≤ up (cpyE (up I 201 1 (q : Int)) (sl q) 1) 0 10 0 508 3 ∧ up (cpyE (up I 201 1 (q : Int)) (sl q) 1) 0 10 0 508 3 ≤ 8) ∧ IV (unM (up (cpyE (up I 201 1 (q : Int)) (sl q) 1) 0 10 0)).2 sl ∧ OK1 ISE (okI (q : Int) (up (cpyE (up I 201 1 (q : Int)) (sl q) 1) 0 10 0)) (unM (up (cpyE (up I 201 1 (q : Int)) (sl q) 1) 0 10 0)).1 (unM (up (cpyE (up I 201 1 (q : Int)) (sl q) 1) 0 10 0)).2
    have ho := h.2.1.1 q (by omega)
    obtain ⟨⟨m, hm, hEs, hWs⟩, h0s⟩ := h.2.2.2.2.2.2.1 q (by omega)
    have hWq := h.1.2.2.2.2.2.2.2.2.1 q (by omega)
    have hJ1 : ∀ x, 1 ≤ x → x < 32 → up (cpyE (up I 201 1 (q : Int)) (sl q) 1) 0 10 0 x = cpyE (up I 201 1 (q : Int)) (sl q) 1 x := fun x a b => up_ne (by omega)
    have hJ : ∀ x, x ≠ 0 → 32 ≤ x → x ≠ 201 → up (cpyE (up I 201 1 (q : Int)) (sl q) 1) 0 10 0 x = I x := fun x a b d => by rw [up_ne a, cpyE_e (by omega), up_ne d]
    have hJ21 : up (cpyE (up I 201 1 (q : Int)) (sl q) 1) 0 10 0 201 1 = (q : Int) := by rw [up_ne (by omega), cpyE_e (by omega), up_eq]
    have hJ0 : ∀ k, k ≠ 10 → up (cpyE (up I 201 1 (q : Int)) (sl q) 1) 0 10 0 0 k = I 0 k := fun k hk => by rw [up_nk hk, cpyE_e (by omega), up_ne (by omega)]
    have hJ010 : up (cpyE (up I 201 1 (q : Int)) (sl q) 1) 0 10 0 0 10 = 0 := up_eq
    have hJR : RG (up (cpyE (up I 201 1 (q : Int)) (sl q) 1) 0 10 0) := rg_up (rg_cpyE (rg_up h.rg (by omega))) (by omega)
    have hEc : EL (cpyE (up I 201 1 (q : Int)) (sl q) 1) 1 (sg I 511 (265 * q)) m m := EL_cpy (EL_of hEs (fun x a b => up_ne (by omega)) rfl) (by omega) hWs
    have hWc : WfT (cpyE (up I 201 1 (q : Int)) (sl q) 1) 1 := WfT_cpy (by omega) (WfT_of hWq fun x a b => up_ne (by omega))
    have hc0 : cpyE (up I 201 1 (q : Int)) (sl q) 1 1 0 = I 1 0 := by rw [cpyE_0 (by omega), up_ne (by omega)]; exact h0s
    generalize up (cpyE (up I 201 1 (q : Int)) (sl q) 1) 0 10 0 = J at *
    generalize cpyE (up I 201 1 (q : Int)) (sl q) 1 = C at *
    have hJ83 : J 508 3 = (q : Int) + 1 := by rw [hJ 508 (by omega) (by omega) (by omega), ← h21]; exact hq
    have ht : tUn J = 0 := if_neg (by omega)
    have hJ83q : J 508 3 - 1 = (q : Int) := by omega
    unfold unM
    rw [ht, if_pos (Int.le_refl 0), hJ83q, Int.toNat_natCast]
    refine ⟨by omega, ?_, ?_⟩
    · show IV (up (cpy (unA J) 511 509 (265 * q) 0 265) 508 14 0) sl
      have hA : unA J = up (up J 508 6 0) 508 3 (q : Int) := by unfold unA; rw [hJ83q]
      have FX : ∀ x, x ≠ 508 → x ≠ 509 → up (cpy (unA J) 511 509 (265 * q) 0 265) 508 14 0 x = J x := fun x a b => by rw [up_ne a, cpy_ne b, hA, up_ne a, up_ne a]
      have F8 : ∀ k, k ≠ 3 → k ≠ 14 → k ≠ 6 → up (cpy (unA J) 511 509 (265 * q) 0 265) 508 14 0 508 k = I 508 k := fun k a b d => by rw [up_nk b, cpy_ne (by omega), hA, up_nk a, up_nk d, hJ 508 (by omega) (by omega) (by omega)]
      have F3 : up (cpy (unA J) 511 509 (265 * q) 0 265) 508 14 0 508 3 = (q : Int) := by rw [up_nk (by omega), cpy_ne (by omega), hA, up_eq]
      have F14 : up (cpy (unA J) 511 509 (265 * q) 0 265) 508 14 0 508 14 = 0 := up_eq
      have F9 : ∀ j, j < 265 → up (cpy (unA J) 511 509 (265 * q) 0 265) 508 14 0 509 j = sg I 511 (265 * q) 509 j := fun j hj => by
        rw [up_ne (by omega), cpy_v (by omega), hA, up_ne (by omega), up_ne (by omega), hJ 511 (by omega) (by omega) (by omega), sg_9, show 265 * q + (j - 0) = 265 * q + j by omega]
      have FR : RG (up (cpy (unA J) 511 509 (265 * q) 0 265) 508 14 0) := by rw [hA]; exact rg_up (rg_cpy (rg_up (rg_up hJR (by omega)) (by omega))) (by omega)
      generalize up (cpy (unA J) 511 509 (265 * q) 0 265) 508 14 0 = F at *
      have FI : ∀ x, x ≠ 0 → 32 ≤ x → x ≠ 201 → x ≠ 508 → x ≠ 509 → F x = I x := fun x a b d e f => by rw [FX x e f, hJ x a b d]
      have F1 : ∀ x, 1 ≤ x → x < 32 → F x = C x := fun x a b => by rw [FX x (by omega) (by omega), hJ1 x a b]
      have F21 : F 201 1 = (q : Int) := by rw [FX 201 (by omega) (by omega)]; exact hJ21
      obtain ⟨k1, k2, k3, k4, k5, k6, k7, k8, k9, k10, k11, k12, k13, k14⟩ := id h.1
      have F0 : ∀ k, k ≠ 10 → F 0 k = I 0 k := fun k hk => by rw [FX 0 (by omega) (by omega), hJ0 k hk]
      have e10 : F 1 0 = I 1 0 := by rw [F1 1 (by omega) (by omega)]; exact hc0
      refine IV_chg h h.2.1 FR (WfT_of hWc F1) (WfM_265 hWs F9) ⟨m, hm, EL_265 hEc hWs (fun x a b => F1 x a (by omega)) F9⟩ (by rw [FX 0 (by omega) (by omega)]; exact hJ010) F14 (by omega) (by rw [F21, F3]) (fun k hk => ?_) (fun k hk => ?_) (fun x a b => FI x (by omega) (by omega) (by omega) (by omega) (by omega)) (F0 12 (by omega)) (F0 13 (by omega)) (by rw [F0 11 (by omega)]; exact k11) (by rw [F0 11 (by omega), F8 43 (by omega) (by omega) (by omega)]; exact h.2.2.2.2.1.2.2.1) (RI_of k5 (FI _ (by omega) (by omega) (by omega) (by omega) (by omega))) (DRd_of h.2.2.2.2.2.2.2.2.1 h.1 (F0 11 (by omega)) e10 (fun x a b => FI x (by omega) (by omega) (by omega) (by omega) (by omega)) (F8 44 (by omega) (by omega) (by omega)) (F8 45 (by omega) (by omega) (by omega)) (FI _ (by omega) (by omega) (by omega) (by omega) (by omega)) (FI _ (by omega) (by omega) (by omega) (by omega) (by omega)) (FI _ (by omega) (by omega) (by omega) (by omega) (by omega))) (fun x a b => FI x (by omega) (by omega) (by omega) (by omega) (by omega)) (F8 5 (by omega) (by omega) (by omega)) (FI _ (by omega) (by omega) (by omega) (by omega) (by omega)) (FI _ (by omega) (by omega) (by omega) (by omega) (by omega)) (TXp_of h (FI _ (by omega) (by omega) (by omega) (by omega) (by omega)) (FI _ (by omega) (by omega) (by omega) (by omega) (by omega)) (FI _ (by omega) (by omega) (by omega) (by omega) (by omega)) (F8 8 (by omega) (by omega) (by omega)) (FI _ (by omega) (by omega) (by omega) (by omega) (by omega)) (FI _ (by omega) (by omega) (by omega) (by omega) (by omega)) (F8 11 (by omega) (by omega) (by omega)) (F8 13 (by omega) (by omega) (by omega)))
      · rw [F21] at hk
        have hok := h.2.1.1 k (by omega)
        exact WfT_of (k9 k (by omega)) fun x a b => FI x (by omega) (by omega) (by omega) (by omega) (by omega)
      · rw [F21] at hk
        have hok := h.2.1.1 k (by omega)
        obtain ⟨g1, g2⟩ := h.2.2.2.2.2.2.1 k (by omega)
        exact ⟨ELs_of g1 (fun x a b => FI x (by omega) (by omega) (by omega) (by omega) (by omega)) (FI _ (by omega) (by omega) (by omega) (by omega) (by omega)), by rw [FI _ (by omega) (by omega) (by omega) (by omega) (by omega), e10]; exact g2⟩
    · refine OK1_ok ?_ rfl
      show up (cpy (unA J) 511 509 (265 * q) 0 265) 508 14 0 508 6 = 0
      unfold unA
      rw [up_nk (by omega), cpy_ne (by omega), up_nk (by omega), up_eq]
theorem rsC_v {J : II} : (∀ x, x ≠ 508 → x ≠ 509 → x < 537 ∨ 539 < x → rsC J x = J x) ∧ (∀ k, k ≠ 6 → k ≠ 43 → k ≠ 44 → k ≠ 45 → rsC J 508 k = J 508 k) ∧ rsC J 508 6 = 0 ∧ rsC J 508 43 = (if J 540 0 = 1 then 1 else 0) ∧ rsC J 508 44 = J 540 1 ∧ rsC J 508 45 = J 540 2 ∧ (∀ j, j < 265 → rsC J 509 j = J 512 j) ∧ (∀ j, j < 192 → rsC J 537 j = J 540 (3 + j)) ∧ (∀ j, j < 8 → rsC J 538 j = J 540 (195 + j)) ∧ ∀ j, j < 8 → rsC J 539 j = J 540 (203 + j) := by
  have hA : ∀ x, x ≠ 508 → x ≠ 509 → rsA J x = J x := fun x a b => rsA_s a b
  have hA8 : ∀ k, rsA J 508 k = up J 508 6 0 508 k := fun k => by unfold rsA; rw [cpy_ne (by omega)]
  have hB : ∀ x, x ≠ 508 → rsB J x = rsA J x := fun x a => by unfold rsB; rw [up_ne a, up_ne a, up_ne a]
  have hC8 : ∀ k, rsC J 508 k = rsB J 508 k := fun k => by unfold rsC; rw [cpy_ne (by omega), cpy_ne (by omega), cpy_ne (by omega)]
  refine ⟨fun x a b c => ?_, fun k a b c d => ?_, ?_, ?_, ?_, ?_, fun j hj => ?_, fun j hj => ?_, fun j hj => ?_, fun j hj => ?_⟩
  · unfold rsC
    rw [cpy_ne (by omega), cpy_ne (by omega), cpy_ne (by omega), hB x a, hA x a b]
  · rw [hC8]
    unfold rsB
    rw [up_nk d, up_nk c, up_nk b, hA8, up_nk a]
  · rw [hC8]
    unfold rsB
    rw [up_nk (by omega), up_nk (by omega), up_nk (by omega), hA8, up_eq]
  · rw [hC8]
    unfold rsB
    rw [up_nk (by omega), up_nk (by omega), up_eq]
  · rw [hC8]
    unfold rsB
    rw [up_nk (by omega), up_eq]
  · rw [hC8]
    unfold rsB
    rw [up_eq]
  · unfold rsC
    rw [cpy_ne (by omega), cpy_ne (by omega), cpy_ne (by omega), hB 509 (by omega)]
    unfold rsA
    rw [cpy_in hj, up_ne (by omega)]
  · unfold rsC
    rw [cpy_ne (by omega), cpy_ne (by omega), cpy_v (by omega), hB 540 (by omega), hA 540 (by omega) (by omega), show 3 + (j - 0) = 3 + j by omega]
  · unfold rsC
    rw [cpy_ne (by omega), cpy_v (by omega), cpy_ne (by omega), hB 540 (by omega), hA 540 (by omega) (by omega), show 195 + (j - 0) = 195 + j by omega]
  · unfold rsC
    rw [cpy_v (by omega), cpy_ne (by omega), cpy_ne (by omega), hB 540 (by omega), hA 540 (by omega) (by omega), show 203 + (j - 0) = 203 + j by omega]
theorem rg_rsC {J : II} (h : RG J) : RG (rsC J) := by
  unfold rsC rsB rsA
  exact rg_cpy (rg_cpy (rg_cpy (rg_up (rg_up (rg_up (rg_cpy (rg_up h (by omega))) (by split <;> omega)) (h 540 1)) (h 540 2))))
theorem s_restore {I : II} {sl : Nat → Nat} (h : IV I sl) : MI (rsR I).2 ∧ IV (rsM9 (rsR I).2).2 sl ∧ OK1 ISE (rsR I) (rsM9 (rsR I).2).1 (rsM9 (rsR I).2).2 := by
  have h5 := h.2.2.2.2.1.2.2.2
  obtain ⟨k1, k2, k3, k4, k5, k6, k7, k8, k9, k10, k11, k12, k13, k14⟩ := id h.1
  by_cases c : I 0 12 = 0
  · have e : rsR I = erI ISE I := if_pos c
    have ht : tRs I = 1 := if_pos (by omega)
    rw [e]
    show MI I ∧ IV (rsM9 I).2 sl ∧ OK1 ISE (erI ISE I) (rsM9 I).1 (rsM9 I).2
    unfold rsM9
    rw [ht, if_neg (by decide)]
    exact ⟨h.mi, IV_thr h (by omega), by dsimp only; exact OK1_e up_eq⟩
  · have c1 : I 0 12 = 1 := by omega
    have e : rsR I = okI (I 464 4) (up (up (up (cpyR (cpyE I 464 1) 495 451) 0 11 (cpyR (cpyE I 464 1) 495 451 0 13)) 0 10 0) 201 1 0) := if_neg c
    obtain ⟨m, hm, hEs, hWs⟩ := h.2.2.2.2.2.2.2.1 c1
    obtain ⟨hd13, hds⟩ := h.2.2.2.2.2.2.2.2.2.1 c1
    have h13 : cpyR (cpyE I 464 1) 495 451 0 13 = I 0 13 := by rw [cpyR_e (by omega), cpyE_e (by omega)]
    rw [e, h13]
    show MI (up (up (up (cpyR (cpyE I 464 1) 495 451) 0 11 (I 0 13)) 0 10 0) 201 1 0) ∧ IV (rsM9 (up (up (up (cpyR (cpyE I 464 1) 495 451) 0 11 (I 0 13)) 0 10 0) 201 1 0)).2 sl ∧ OK1 ISE (okI (I 464 4) (up (up (up (cpyR (cpyE I 464 1) 495 451) 0 11 (I 0 13)) 0 10 0) 201 1 0)) (rsM9 (up (up (up (cpyR (cpyE I 464 1) 495 451) 0 11 (I 0 13)) 0 10 0) 201 1 0)).1 (rsM9 (up (up (up (cpyR (cpyE I 464 1) 495 451) 0 11 (I 0 13)) 0 10 0) 201 1 0)).2
    have hv := cpyR_v (I := cpyE I 464 1) (s := 495) (d := 451) (by omega)
    have hEc : EL (cpyE I 464 1) 1 (sg I 512 0) m m := EL_cpy hEs (by omega) hWs
    have hWc : WfT (cpyE I 464 1) 1 := WfT_cpy (by omega) k7
    have hc0 : cpyE I 464 1 1 0 = I 464 0 := cpyE_0 (by omega)
    have hJ1 : ∀ x, 1 ≤ x → x < 32 → up (up (up (cpyR (cpyE I 464 1) 495 451) 0 11 (I 0 13)) 0 10 0) 201 1 0 x = cpyE I 464 1 x := fun x a b => by rw [up_ne (by omega), up_ne (by omega), up_ne (by omega), cpyR_e (by omega)]
    have hJD : ∀ x, 451 ≤ x → x < 464 → up (up (up (cpyR (cpyE I 464 1) 495 451) 0 11 (I 0 13)) 0 10 0) 201 1 0 x = cpyR (cpyE I 464 1) 495 451 x := fun x a b => by rw [up_ne (by omega), up_ne (by omega), up_ne (by omega)]
    have hJ : ∀ x, x ≠ 0 → 32 ≤ x → x ≠ 201 → x < 451 ∨ 464 ≤ x → up (up (up (cpyR (cpyE I 464 1) 495 451) 0 11 (I 0 13)) 0 10 0) 201 1 0 x = I x := fun x a b d f => by rw [up_ne d, up_ne a, up_ne a, cpyR_e (by omega), cpyE_e (by omega)]
    have hJ21 : up (up (up (cpyR (cpyE I 464 1) 495 451) 0 11 (I 0 13)) 0 10 0) 201 1 0 201 1 = 0 := up_eq
    have hJ010 : up (up (up (cpyR (cpyE I 464 1) 495 451) 0 11 (I 0 13)) 0 10 0) 201 1 0 0 10 = 0 := by rw [up_ne (by omega), up_eq]
    have hJ011 : up (up (up (cpyR (cpyE I 464 1) 495 451) 0 11 (I 0 13)) 0 10 0) 201 1 0 0 11 = I 0 13 := by rw [up_ne (by omega), up_nk (by omega), up_eq]
    have hJ0 : ∀ k, k ≠ 10 → k ≠ 11 → up (up (up (cpyR (cpyE I 464 1) 495 451) 0 11 (I 0 13)) 0 10 0) 201 1 0 0 k = I 0 k := fun k a b => by rw [up_ne (by omega), up_nk a, up_nk b, cpyR_e (by omega), cpyE_e (by omega)]
    have hJR : RG (up (up (up (cpyR (cpyE I 464 1) 495 451) 0 11 (I 0 13)) 0 10 0) 201 1 0) := rg_up (rg_up (rg_up (rg_cpyR (rg_cpyE h.rg)) (h.rg 0 13)) (by omega)) (by omega)
    generalize up (up (up (cpyR (cpyE I 464 1) 495 451) 0 11 (I 0 13)) 0 10 0) 201 1 0 = J at *
    have hJ508 : J 508 = I 508 := hJ 508 (by omega) (by omega) (by omega) (by omega)
    have ht : tRs J = 0 := if_neg (by rw [hJ508]; omega)
    obtain ⟨r1, r2, r3, r4, r5, r6, r7, r8, r9, r10⟩ := rsC_v (J := J)
    unfold rsM9
    rw [ht, if_pos (Int.le_refl 0)]
    refine ⟨⟨WfM_of h.mi.1 (hJ 509 (by omega) (by omega) (by omega) (by omega)), hJR⟩, ?_, ?_⟩
    · show IV (up (up (rsC J) 508 3 0) 508 14 0) sl
      have j40 : J 540 = I 540 := hJ 540 (by omega) (by omega) (by omega) (by omega)
      have FX : ∀ x, x ≠ 508 → x ≠ 509 → x < 537 ∨ 539 < x → up (up (rsC J) 508 3 0) 508 14 0 x = J x := fun x a b d => by rw [up_ne a, up_ne a, r1 x a b d]
      have FN : ∀ x, x ≠ 508 → up (up (rsC J) 508 3 0) 508 14 0 x = rsC J x := fun x a => by rw [up_ne a, up_ne a]
      have F8 : ∀ k, k ≠ 3 → k ≠ 14 → k ≠ 6 → k ≠ 43 → k ≠ 44 → k ≠ 45 → up (up (rsC J) 508 3 0) 508 14 0 508 k = I 508 k := fun k a b d e f g => by rw [up_nk b, up_nk a, r2 k d e f g, hJ508]
      have F83 : up (up (rsC J) 508 3 0) 508 14 0 508 3 = 0 := by rw [up_nk (by omega), up_eq]
      have F814 : up (up (rsC J) 508 3 0) 508 14 0 508 14 = 0 := up_eq
      have F843 : up (up (rsC J) 508 3 0) 508 14 0 508 43 = (if I 540 0 = 1 then 1 else 0) := by rw [up_nk (by omega), up_nk (by omega), r4, j40]
      have F844 : up (up (rsC J) 508 3 0) 508 14 0 508 44 = I 540 1 := by rw [up_nk (by omega), up_nk (by omega), r5, j40]
      have F845 : up (up (rsC J) 508 3 0) 508 14 0 508 45 = I 540 2 := by rw [up_nk (by omega), up_nk (by omega), r6, j40]
      have FR : RG (up (up (rsC J) 508 3 0) 508 14 0) := rg_up (rg_up (rg_rsC hJR) (by omega)) (by omega)
      generalize up (up (rsC J) 508 3 0) 508 14 0 = F at *
      have F9 : ∀ j, j < 265 → F 509 j = sg I 512 0 509 j := fun j hj => by
        rw [FN 509 (by omega), r7 j hj, hJ 512 (by omega) (by omega) (by omega) (by omega), sg_9]
        show I 512 j = I 512 (0 + j)
        rw [Nat.zero_add]
      have FI : ∀ x, x ≠ 0 → 32 ≤ x → x ≠ 201 → x < 451 ∨ 464 ≤ x → x ≠ 508 → x ≠ 509 → x < 537 ∨ 539 < x → F x = I x := fun x a b d e f g i => by rw [FX x f g i, hJ x a b d e]
      have F1 : ∀ x, 1 ≤ x → x < 32 → F x = cpyE I 464 1 x := fun x a b => by rw [FX x (by omega) (by omega) (by omega), hJ1 x a b]
      have FD : ∀ x, 451 ≤ x → x < 464 → F x = cpyR (cpyE I 464 1) 495 451 x := fun x a b => by rw [FX x (by omega) (by omega) (by omega), hJD x a b]
      have hE95 : ∀ x, 495 ≤ x → x < 508 → cpyE I 464 1 x = I x := fun x a b => cpyE_e (by omega)
      have F21 : F 201 1 = 0 := by rw [FX 201 (by omega) (by omega) (by omega)]; exact hJ21
      have F0 : ∀ k, k ≠ 10 → k ≠ 11 → F 0 k = I 0 k := fun k a b => by rw [FX 0 (by omega) (by omega) (by omega), hJ0 k a b]
      have F011 : F 0 11 = I 0 13 := by rw [FX 0 (by omega) (by omega) (by omega)]; exact hJ011
      have e10 : F 1 0 = I 464 0 := by rw [F1 1 (by omega) (by omega)]; exact hc0
      refine IV_chg h h.2.1 FR (WfT_of hWc F1) (WfM_265 hWs F9) ⟨m, hm, EL_265 hEc hWs (fun x a b => F1 x a (by omega)) F9⟩ (by rw [FX 0 (by omega) (by omega) (by omega)]; exact hJ010) F814 (by omega) (by rw [F21, F83]) (fun k hk => by omega) (fun k hk => by omega) (fun x a b => FI x (by omega) (by omega) (by omega) (by omega) (by omega) (by omega) (by omega)) (F0 12 (by omega) (by omega)) (F0 13 (by omega) (by omega)) (by rw [F011]; exact k13) ?_ ?_ ?_ (fun x a b => FI x (by omega) (by omega) (by omega) (by omega) (by omega) (by omega) (by omega)) (F8 5 (by omega) (by omega) (by omega) (by omega) (by omega) (by omega)) (FI _ (by omega) (by omega) (by omega) (by omega) (by omega) (by omega) (by omega)) (FI _ (by omega) (by omega) (by omega) (by omega) (by omega) (by omega) (by omega)) (TXp_of h (FI _ (by omega) (by omega) (by omega) (by omega) (by omega) (by omega) (by omega)) (FI _ (by omega) (by omega) (by omega) (by omega) (by omega) (by omega) (by omega)) (FI _ (by omega) (by omega) (by omega) (by omega) (by omega) (by omega) (by omega)) (F8 8 (by omega) (by omega) (by omega) (by omega) (by omega) (by omega)) (FI _ (by omega) (by omega) (by omega) (by omega) (by omega) (by omega) (by omega)) (FI _ (by omega) (by omega) (by omega) (by omega) (by omega) (by omega) (by omega)) (F8 11 (by omega) (by omega) (by omega) (by omega) (by omega) (by omega)) (F8 13 (by omega) (by omega) (by omega) (by omega) (by omega) (by omega)))
      · rw [F011, F843, ← hd13]
        split <;> omega
      · unfold RI
        rw [FD 451 (by omega) (by omega), hv.1, hv.2.1, hE95 495 (by omega) (by omega)]
        exact k6
      · intro hc
        rw [F011] at hc
        obtain ⟨d0, d1, d2, d3, d4, d5⟩ := hds hc
        have hrg := DS_rng h.1 (hds hc)
        rw [F844, F845, e10]
        refine ⟨fun k c hk hc8 hn => ?_, ?_, ?_, fun k c hk hc8 => ?_, fun k hk => ?_, fun k hk => ?_⟩
        · rw [FN 537 (by omega), r8 _ (by omega), j40]
          exact d0 k c hk hc8 hn
        · rw [FD 451 (by omega) (by omega), hv.1, hE95 495 (by omega) (by omega)]; exact d1
        · rw [FD 451 (by omega) (by omega), hv.2.1, hE95 495 (by omega) (by omega)]; exact d2
        · rw [FD _ (by omega) (by omega), hv.2.2.2.2 k c (by omega) hc8, hE95 _ (by omega) (by omega), FN 537 (by omega), r8 _ (by omega), j40]
          exact d3 k c hk hc8
        · rw [FD _ (by omega) (by omega), hv.2.2.2.1 k hk, hE95 _ (by omega) (by omega), FN 538 (by omega), r9 k hk, j40]
          exact d4 k hk
        · rw [FD _ (by omega) (by omega), hv.2.2.1 k (by omega), hE95 _ (by omega) (by omega), FN 539 (by omega), r10 k (by omega), j40]
          exact d5 k hk
    · refine OK1_ok ?_ ?_
      · show up (up (rsC J) 508 3 0) 508 14 0 508 6 = 0
        rw [up_nk (by omega), up_nk (by omega), r3]
      · show I 464 4 = rsC J 509 1
        rw [r7 1 (by omega), hJ 512 (by omega) (by omega) (by omega) (by omega), hEs.1.2.2.1]
        exact hEs.1.2.2.2.1.symm
