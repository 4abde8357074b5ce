/-! execute -/
theorem nb_5 {I : II} {t : Nat} (h : ¬ (nbR I t).1 = -1) : (nbR I t).2 t 5 = I t 5 := by
  unfold nbR at *
  split
  · rename_i h1
    rw [if_pos h1] at h
    exact absurd rfl h
  · split
    · exact up_nk (by omega)
    · show inc (inc I t) t t 5 = I t 5
      exact (up_nk (by decide)).trans (up_nk (by decide))
theorem pa_5 {I : II} {t : Nat} {s : Int} (h : ¬ (paR I t s).1 = 0) : (paR I t s).2 t 5 = I t 5 := by
  unfold paR at *
  split
  · exact up_nk (by omega)
  · rename_i h1
    rw [if_neg h1] at h
    exact absurd rfl h
theorem pn_5 {I : II} {t e : Nat} (h : ¬ (pnR I t e).1 = -1) : (pnR I t e).2 t 5 = I t 5 := by
  unfold pnR at *
  split
  · rename_i h1
    rw [if_pos h1] at h
    exact absurd rfl h
  · rename_i h1
    rw [if_neg h1] at h
    exact nb_5 h
theorem rk_5 {t : Nat} {nc ls : Int} : ∀ f k s (J : II), ¬ (rkL t nc ls f k s J).1 = 0 → (rkL t nc ls f k s J).2 t 5 = J t 5
  | 0, _, _, _, h => absurd rfl h
  | f + 1, k, s, J, h => by
    unfold rkL at *
    split
    · show up (inc J t) t 2 k t 5 = J t 5
      unfold inc
      rw [up_nk (by omega), up_nk (by omega)]
    · rename_i h1
      rw [if_neg h1] at h
      split
      · rename_i h2
        rw [if_pos h2] at h
        exact absurd rfl h
      · rename_i h2
        rw [if_neg h2] at h
        rw [rk_5 f (k + 1) _ _ h]
        unfold inc
        rw [up_nk (by omega), up_ne (by omega)]
theorem addM_t {I : II} {e a m t : Nat} {z : Int} (het : e + 31 ≤ t) (h4 : 0 ≤ I e 4 ∧ I e 4 ≤ 24) : addM I e a m z t = I t := addM_e (by omega) (by omega) (by omega) (by omega)
theorem ad_5 {I : II} {t e : Nat} (het : e + 31 ≤ t) (hW : WfT I e) (h : ¬ (adR I t e).1 = 0) : (adR I t e).2 t 5 = I t 5 := by
  unfold adR at *
  split
  · rename_i h1
    rw [if_pos h1] at h
    exact absurd rfl h
  · rename_i h1
    rw [if_neg h1] at h
    unfold ad1 at *
    split
    · rename_i h2
      rw [if_pos h2] at h
      exact absurd rfl h
    · rename_i h2
      rw [if_neg h2] at h
      unfold ad2 at *
      split
      · rename_i h3
        rw [if_pos h3] at h
        exact absurd rfl h
      · rename_i h3
        rw [if_neg h3] at h
        unfold ad3 at *
        split
        · rename_i h5
          rw [if_pos h5] at h
          exact absurd rfl h
        · rename_i h5
          have r4 : (rkR (paR (nbR I t).2 t 58).2 t ((paR (nbR I t).2 t 58).2 e 0) 1).2 e = I e := by
            show (rkL _ _ _ 9 0 0 _).2 e = _
            rw [rk_e (by omega) (by omega), pa_e (by omega), nb_e (by omega)]
          show addM _ e (t + 2) _ _ t 5 = I t 5
          rw [addM_t het (by rw [r4]; exact ⟨hW.1.2.2.1, hW.2⟩)]
          exact (rk_5 9 0 0 _ h5).trans ((pa_5 h3).trans (nb_5 h2))
theorem inc_5 {I : II} {t : Nat} : inc I t t 5 = I t 5 := up_nk (by omega)
theorem sz_5 {I : II} {t e : Nat} (het : e + 31 ≤ t) (h : ¬ (szR I t e).1 = 0) : (szR I t e).2 t 5 = I t 5 := by
  unfold szR sz1 at *
  split
  · rename_i h2
    rw [if_pos h2] at h
    exact absurd rfl h
  · rename_i h2
    rw [if_neg h2] at h
    unfold sz2 at *
    split
    · rename_i h3
      rw [if_pos h3] at h
      exact absurd rfl h
    · rename_i h3
      rw [if_neg h3] at h
      unfold sz3 at *
      split
      · rename_i h5
        rw [if_pos h5] at h
        exact absurd rfl h
      · rename_i h5
        rw [if_neg h5] at h
        unfold sz4 at *
        split
        · rename_i h6
          rw [if_pos h6] at h
          exact absurd rfl h
        · rename_i h6
          show up _ (e + 3) _ _ t 5 = I t 5
          rw [up_ne (by omega)]
          exact (pa_5 h6).trans ((nb_5 h5).trans ((pa_5 h3).trans ((pn_5 h2).trans inc_5)))
theorem rq_5 {I : II} {t e : Nat} (het : e + 31 ≤ t) (hp : (pnR (inc I t) t e).1.toNat < 25) (h : ¬ (rqR I t e).1 = 0) : (rqR I t e).2 t 5 = I t 5 := by
  unfold rqR rq1 at *
  split
  · rename_i h2
    rw [if_pos h2] at h
    exact absurd rfl h
  · rename_i h2
    rw [if_neg h2] at h
    unfold rq2 at *
    split
    · rename_i h3
      rw [if_pos h3] at h
      exact absurd rfl h
    · rename_i h3
      rw [if_neg h3] at h
      unfold rq3 at *
      split
      · rename_i h5
        rw [if_pos h5] at h
        exact absurd rfl h
      · rename_i h5
        show rankM _ e _ (t + 2) _ t 5 = I t 5
        rw [rankM_e (by omega) (by omega)]
        exact (rk_5 9 0 0 _ h5).trans ((pa_5 h3).trans ((pn_5 h2).trans inc_5))
theorem lt_5 {I : II} {t e : Nat} (het : e + 31 ≤ t) (h : ¬ (ltR I t e).1 = 0) : (ltR I t e).2 t 5 = I t 5 := by
  unfold ltR lt1 at *
  split
  · rename_i h2
    rw [if_pos h2] at h
    exact absurd rfl h
  · rename_i h2
    show drawM _ e (t + 2) _ t 5 = I t 5
    rw [drawM_e (by omega)]
    exact (rk_5 9 0 0 _ h2).trans inc_5
theorem cm_5 {I : II} {t e : Nat} (het : e + 31 ≤ t) (hW : WfT I e) (h : ¬ (cmR I t e).1 = 0) : (cmR I t e).2 t 5 = I t 5 := by
  unfold cmR at *
  split
  · rename_i h1
    rw [if_pos h1] at h
    exact sz_5 het h
  · rename_i h1
    rw [if_neg h1] at h
    split
    · rename_i h2
      rw [if_pos h2] at h
      refine rq_5 het ?_ h
      have := pn_rng (inc I t) t e
      have h4 : inc I t e = I e := inc_e (by omega)
      rw [h4] at this
      have := hW.2
      omega
    · rename_i h2
      rw [if_neg h2] at h
      split
      · rename_i h3
        rw [if_pos h3] at h
        exact lt_5 het h
      · rename_i h3
        rw [if_neg h3] at h
        exact ad_5 het hW h
theorem ri_5 {t e : Nat} (het : e + 31 ≤ t) : ∀ f k (J : II), WfT J e → TI J t → ¬ (riL t e f k J).1 = -1 → (riL t e f k J).2 t 5 = J t 5
  | 0, _, _, _, _, h => absurd rfl h
  | f + 1, k, J, hW, hT, h => by
    have hC := cm_ok het hW hT
    unfold riL at *
    split
    · rfl
    · rename_i h1
      rw [if_neg h1] at h
      split
      · rename_i h2
        rw [if_pos h2] at h
        exact absurd rfl h
      · rename_i h2
        rw [if_neg h2] at h
        exact (ri_5 het f (k + 1) _ hC.2.2 hC.2.1 h).trans (cm_5 het hW h2)
theorem exJ_5 {I : II} (hW : WfT I 1) (hT : TI0 I 198) (h : ¬ (exJ I).1 = -1) : (exJ I).2 198 5 = -1 := by
  obtain ⟨h1, h2⟩ := ex_0 hW hT
  exact (ri_5 (by omega) 61 0 _ (WfT_00 h1 (by omega)) (TI_00 h2) h).trans up_eq
theorem exB_v {C : II} : (∀ x, x ≠ 508 → x ≠ 510 → exB C x = C x) ∧ (∀ k, k ≠ 9 → k ≠ 10 → exB C 508 k = C 508 k) ∧ ∀ j, j < 265 → exB C 510 j = C 509 j := by
  unfold exB
  exact ⟨fun x a b => by rw [up_ne a, up_ne a, cpy_ne b], fun k a b => by rw [up_nk b, up_nk a, cpy_ne (by omega)], fun j hj => by rw [up_ne (by omega), up_ne (by omega), cpy_in hj]⟩
theorem exT_v {K : II} : (∀ x, x ≠ 508 → exT K x = K x) ∧ (∀ k, k ≠ 6 → k ≠ 8 → k ≠ 11 → exT K 508 k = K 508 k) ∧ exT K 508 8 = 0 ∧ exT K 508 11 = (if K 508 10 = 0 then -1 else K 508 9) ∧ exT K 508 6 = (if K 508 10 = 0 then 0 else 1) := by
  unfold exT
  exact ⟨fun x a => by rw [up_ne a, up_ne a, up_ne a], fun k a b c => by rw [up_nk a, up_nk c, up_nk b], by rw [up_nk (by omega), up_nk (by omega), up_eq], by rw [up_nk (by omega), up_eq], up_eq⟩
theorem rg_exT {K : II} (h : RG K) : RG (exT K) := by
  unfold exT
  refine rg_up (rg_up (rg_up h (by omega)) ?_) (by split <;> omega)
  split
  · omega
  · exact h 508 9
theorem s_execute {I : II} {sl : Nat → Nat} {n : Nat} (h : IV I sl) (hn : I 201 1 = (n : Int)) : ∃ z F, TB (exR I n sl).2 ∧ (0 ≤ (exR I n sl).2 508 3 ∧ (exR I n sl).2 508 3 ≤ 8) ∧ xeO (exR I n sl).2 = some (z, F) ∧ IV F (if (exJ I).1 = -1 then sl else reSl sl n) ∧ OK1 IAE (exR I n sl) z F := by
  obtain ⟨i1, i2, i3, i4, i5, i6, i7, i8, i9, i10, i11, i12⟩ := id h
  obtain ⟨k1, k2, k3, k4, k5, k6, k7, k8, k9, k10, k11, k12, k13, k14⟩ := id i1
  obtain ⟨m, hm, hE⟩ := id i6
  have hW1 : WfT I 1 := ⟨k1.1, k2⟩
  obtain ⟨d1, d2, d3, d4⟩ := ex_ok hW1 k4
  have dfr : ∀ x, x < 32 ∨ (63 ≤ x ∧ x ≠ 198 ∧ x ≠ 200) → (exJ I).2 x = I x := fun x hx => ex_fr hW1 k4 hx
  have hRD := rg_exJ hW1 k4 h.rg
  have hL : ∀ x, x ≠ 198 → exK I x = (exJ I).2 x := fun x hx => up_ne hx
  have hL8 : ∀ k, k ≠ 4 → exK I 198 k = (exJ I).2 198 k := fun k hk => up_nk hk
  have hL4 : exK I 198 4 = 0 := up_eq
  have hRL : RG (exK I) := rg_up hRD (by omega)
  have hLI : ∀ x, x < 32 ∨ (63 ≤ x ∧ x ≠ 198 ∧ x ≠ 200) → exK I x = I x := fun x hx => by rw [hL x (by omega), dfr x hx]
  have h83 : I 508 3 = (n : Int) := by rw [← i5.2.1]; exact hn
  have hn8 : n ≤ 8 := by omega
  by_cases c : (exJ I).1 = -1
  · have e : exR I n sl = erI IAE (exK I) := if_pos c
    rw [e, if_pos c]
    show ∃ z F, TB (exK I) ∧ (0 ≤ exK I 508 3 ∧ exK I 508 3 ≤ 8) ∧ xeO (exK I) = some (z, F) ∧ IV F sl ∧ OK1 IAE (erI IAE (exK I)) z F
    have h508 : exK I 508 = I 508 := hLI 508 (by omega)
    have hTB : TB (exK I) := TB_of i3 hRL (hLI _ (by omega)) ⟨by rw [h508], by rw [h508]⟩ (hLI _ (by omega)) (hLI _ (by omega))
    obtain ⟨z, K, hK, hR⟩ := xe_sim (J := exK I) hTB ⟨k4, by rw [h508]; exact i4.2.1, by rw [hLI 513 (by omega)]; exact i4.2.2⟩ hW1 (EL_of hE (fun _ _ _ => rfl) (hLI 509 (by omega)))
    rcases hR with ⟨r1, r2⟩ | ⟨r1, r2, _⟩
    · obtain ⟨w1, w2, w3⟩ := id r2
      have hcf := cmf_ex 62 0 _ hK (TX_B hTB)
      have hex : xeO (exK I) = some (0, cpy (exT K) 510 509 0 0 265) := by
        unfold xeO
        rw [hK]
        show some (if K 508 10 = 0 then (z, puM (exT K) 510) else (0, cpy (exT K) 510 509 0 0 265)) = _
        rw [if_neg (by omega)]
      obtain ⟨b1, b2, b3⟩ := exB_v (C := exK I)
      obtain ⟨t1, t2, t3, t4, t5⟩ := exT_v (K := K)
      have FX : ∀ x, x ≠ 508 → x ≠ 509 → x ≠ 510 → x ≠ 514 → cpy (exT K) 510 509 0 0 265 x = exK I x := fun x q1 q2 q3 q4 => by rw [cpy_ne q2, t1 x q1, hcf.1 x q1 q2 q4, b1 x q1 q3]
      have F9 : ∀ j, j < 265 → cpy (exT K) 510 509 0 0 265 509 j = I 509 j := fun j hj => by rw [cpy_in hj, t1 510 (by omega), hcf.1 510 (by omega) (by omega) (by omega), b3 j hj, hLI 509 (by omega)]
      have F8 : ∀ k, k ≠ 6 → k ≠ 8 → k ≠ 9 → k ≠ 10 → k ≠ 11 → k ≠ 13 → cpy (exT K) 510 509 0 0 265 508 k = I 508 k := fun k q1 q2 q3 q4 q5 q6 => by rw [cpy_ne (by omega), t2 k q1 q2 q5, ex_f q3 q4 q6 62 0 _ hK, b2 k q3 q4, h508]
      have F88 : cpy (exT K) 510 509 0 0 265 508 8 = 0 := by rw [cpy_ne (by omega), t3]
      have F811 : cpy (exT K) 510 509 0 0 265 508 11 = (exJ I).2 198 5 := by rw [cpy_ne (by omega), t4, if_neg (by omega)]; exact w3
      have F86 : cpy (exT K) 510 509 0 0 265 508 6 = 1 := by rw [cpy_ne (by omega), t5, if_neg (by omega)]
      have F813 : cpy (exT K) 510 509 0 0 265 508 13 = K 508 13 := by rw [cpy_ne (by omega), t2 13 (by omega) (by omega) (by omega)]
      have F14 : cpy (exT K) 510 509 0 0 265 514 = K 514 := by rw [cpy_ne (by omega), t1 514 (by omega)]
      have FR : RG (cpy (exT K) 510 509 0 0 265) := rg_cpy (rg_exT w1.1.2)
      generalize cpy (exT K) 510 509 0 0 265 = F at *
      refine ⟨0, F, hTB, by rw [h508]; omega, hex, ?_, OK1_e F86⟩
      refine IV_txt h FR (fun x q0 q1 q2 q3 q4 => ?_) F9 F8 ⟨⟨⟨?_, ?_, ?_, ?_⟩, ?_, ?_⟩, ?_, ?_, ?_, ?_, ?_⟩
      · rw [FX x (by omega) (by omega) (by omega) (by omega), hLI x (by omega)]
      · rw [FX 198 (by omega) (by omega) (by omega) (by omega), hL4]; omega
      · rw [FX _ (by omega) (by omega) (by omega) (by omega), hLI _ (by omega)]; exact k4.2.1
      · rw [FX _ (by omega) (by omega) (by omega) (by omega), hL _ (by omega)]; exact d1.2.2.1
      · rw [FX 198 (by omega) (by omega) (by omega) (by omega), hL8 2 (by omega)]; exact d1.2.2.2
      · rw [FX 198 (by omega) (by omega) (by omega) (by omega), hL4, F88]
      · intro k hk
        rw [FX 199 (by omega) (by omega) (by omega) (by omega), hLI 199 (by omega), FX 513 (by omega) (by omega) (by omega) (by omega), hLI 513 (by omega)]
        exact i4.2.2 k hk
      · rw [FX 198 (by omega) (by omega) (by omega) (by omega), hL8 5 (by omega), F811]
      · rw [F88]; omega
      · rw [FX 513 (by omega) (by omega) (by omega) (by omega), hLI 513 (by omega)]; exact i3.2.2.1
      · rw [F14]; exact w1.2.2.2.2.1
      · rw [F813]; exact w1.2.2.2.2.2.1
    · omega
  · have e : exR I n sl = okI (exJ I).1 (cpyE (rfM (exK I) n sl) 32 1) := if_neg c
    rw [e, if_neg c]
    show ∃ z F, TB (cpyE (rfM (exK I) n sl) 32 1) ∧ (0 ≤ cpyE (rfM (exK I) n sl) 32 1 508 3 ∧ cpyE (rfM (exK I) n sl) 32 1 508 3 ≤ 8) ∧ xeO (cpyE (rfM (exK I) n sl) 32 1) = some (z, F) ∧ IV F (reSl sl n) ∧ OK1 IAE (okI (exJ I).1 (cpyE (rfM (exK I) n sl) 32 1)) z F
    obtain ⟨v1, v2, v3, v4⟩ := rf_v (I := exK I) (n := n) i2.1
    have hLn : exK I 201 1 = (n : Int) := by rw [hLI 201 (by omega)]; exact hn
    have hRC : RG (cpyE (rfM (exK I) n sl) 32 1) := rg_cpyE (rg_rf hRL hLn hn8)
    have hrf : ∀ x, x ≠ 0 → x < 201 ∨ 451 ≤ x → rfM (exK I) n sl x = exK I x := fun x a b => rf_e i2.1 b a
    have hC : ∀ x, x = 0 ∨ 32 ≤ x → cpyE (rfM (exK I) n sl) 32 1 x = rfM (exK I) n sl x := fun x hx => cpyE_e (by omega)
    have hCI : ∀ x, 63 ≤ x → x < 201 ∨ 451 ≤ x → x ≠ 198 → x ≠ 200 → cpyE (rfM (exK I) n sl) 32 1 x = I x := fun x a b q1 q2 => by rw [hC x (by omega), hrf x (by omega) b, hLI x (by omega)]
    have hWC : WfT (cpyE (rfM (exK I) n sl) 32 1) 1 := WfT_cpy (by omega) (WfT_of d2 fun x a b => by rw [hrf x (by omega) (by omega), hL x (by omega)])
    have hC10 : cpyE (rfM (exK I) n sl) 32 1 1 0 = (exJ I).2 32 0 := by rw [cpyE_0 (by omega), hrf 32 (by omega) (by omega), hL 32 (by omega)]
    have hEC : ∀ (K : II) (q : Nat), EL (exJ I).2 32 K q q → WfM K → EL (cpyE (rfM (exK I) n sl) 32 1) 1 K q q := fun K q hq hK => EL_cpy (EL_of hq (fun x a b => by rw [hrf x (by omega) (by omega), hL x (by omega)]) rfl) (by omega) hK
    generalize cpyE (rfM (exK I) n sl) 32 1 = C at *
    have h508 : C 508 = I 508 := hCI 508 (by omega) (by omega) (by omega) (by omega)
    have hTB : TB C := TB_of i3 hRC (hCI _ (by omega) (by omega) (by omega) (by omega)) ⟨by rw [h508], by rw [h508]⟩ (hCI _ (by omega) (by omega) (by omega) (by omega)) (hCI _ (by omega) (by omega) (by omega) (by omega))
    have h509 : C 509 = I 509 := hCI 509 (by omega) (by omega) (by omega) (by omega)
    have h513 : C 513 = I 513 := hCI 513 (by omega) (by omega) (by omega) (by omega)
    obtain ⟨z, K, hK, hR⟩ := xe_sim (J := C) hTB ⟨k4, by rw [h508]; exact i4.2.1, by rw [h513]; exact i4.2.2⟩ hW1 (EL_of hE (fun _ _ _ => rfl) h509)
    rcases hR with ⟨r1, r2⟩ | ⟨r1, r2, r3, r4, q, hq, r5⟩
    · exact absurd r1 c
    · obtain ⟨w1, w2, w3, w4, w5, w6⟩ := id r3
      have hcf := cmf_ex 62 0 _ hK (TX_B hTB)
      have hex : xeO C = some (z, puM (exT K) 510) := by
        unfold xeO
        rw [hK]
        show some (if K 508 10 = 0 then (z, puM (exT K) 510) else (0, cpy (exT K) 510 509 0 0 265)) = _
        rw [if_pos w2]
      obtain ⟨b1, b2, b3⟩ := exB_v (C := C)
      obtain ⟨t1, t2, t3, t4, t5⟩ := exT_v (K := K)
      have hK8 : ∀ k, k ≠ 9 → k ≠ 10 → k ≠ 13 → K 508 k = I 508 k := fun k a b d => by rw [ex_f a b d 62 0 _ hK, b2 k a b, h508]
      have hp3 : exT K 508 3 = (n : Int) := by rw [t2 3 (by omega) (by omega) (by omega), hK8 3 (by omega) (by omega) (by omega)]; exact h83
      obtain ⟨u1, u2, u3⟩ := pu_8 (J := exT K) (a := 510) (by omega)
      have u4 := pu_r (J := exT K) (a := 510) (by omega) (by omega) hp3 hn8
      have hKX : ∀ x, x ≠ 508 → x ≠ 509 → x ≠ 510 → x ≠ 514 → exT K x = C x := fun x q1 q2 q3 q4 => by rw [t1 x q1, hcf.1 x q1 q2 q4, b1 x q1 q3]
      have FX : ∀ x, x ≠ 508 → x ≠ 509 → x ≠ 510 → x ≠ 511 → x ≠ 514 → puM (exT K) 510 x = C x := fun x q1 q2 q3 q4 q5 => by rw [pu_s q1 q4, hKX x q1 q2 q3 q5]
      have F9 : puM (exT K) 510 509 = K 509 := by rw [pu_s (by omega) (by omega), t1 509 (by omega)]
      have F14 : puM (exT K) 510 514 = K 514 := by rw [pu_s (by omega) (by omega), t1 514 (by omega)]
      have F8 : ∀ k, k ≠ 3 → k ≠ 14 → k ≠ 6 → k ≠ 8 → k ≠ 9 → k ≠ 10 → k ≠ 11 → k ≠ 13 → puM (exT K) 510 508 k = I 508 k := fun k q1 q2 q3 q4 q5 q6 q7 q8 => by rw [u1 k q1 q2, t2 k q3 q4 q7, hK8 k q5 q6 q8]
      have F88 : puM (exT K) 510 508 8 = 0 := by rw [u1 8 (by omega) (by omega), t3]
      have F811 : puM (exT K) 510 508 11 = -1 := by rw [u1 11 (by omega) (by omega), t4, if_pos w2]
      have F86 : puM (exT K) 510 508 6 = 0 := by rw [u1 6 (by omega) (by omega), t5, if_pos w2]
      have F813 : puM (exT K) 510 508 13 = K 508 13 := by rw [u1 13 (by omega) (by omega), t2 13 (by omega) (by omega) (by omega)]
      have F3 : puM (exT K) 510 508 3 = (if I 508 3 = 8 then 8 else I 508 3 + 1) := by rw [u3, hp3, ← h83]
      have F11 : ∀ k j : Nat, j < 265 → k < 8 → k ≤ n → puM (exT K) 510 511 (265 * k + j) = if n < 8 then (if k = n then I 509 j else I 511 (265 * k + j)) else (if k = 7 then I 509 j else I 511 (265 * (k + 1) + j)) := by
        intro k j q1 q2 q3
        have e10 : exT K 510 j = I 509 j := by rw [t1 510 (by omega), hcf.1 510 (by omega) (by omega) (by omega), b3 j q1, h509]
        have e11 : exT K 511 = I 511 := by rw [hKX 511 (by omega) (by omega) (by omega) (by omega)]; exact hCI 511 (by omega) (by omega) (by omega) (by omega)
        rw [u4 k j q1 q2 q3, e10, e11]
      have FR : RG (puM (exT K) 510) := rg_pu9 (rg_exT w1.1.2) (by omega)
      generalize puM (exT K) 510 = F at *
      have FI : ∀ x, 63 ≤ x → x < 201 ∨ 451 ≤ x → x ≠ 198 → x ≠ 200 → x ≠ 508 → x ≠ 509 → x ≠ 510 → x ≠ 511 → x ≠ 514 → F x = I x := fun x a b q1 q2 q3 q4 q5 q6 q7 => by rw [FX x q3 q4 q5 q6 q7, hCI x a b q1 q2]
      have F1 : ∀ x, 1 ≤ x → x < 32 → F x = C x := fun x a b => FX x (by omega) (by omega) (by omega) (by omega) (by omega)
      have e98 : F 198 = exK I 198 := by rw [FX 198 (by omega) (by omega) (by omega) (by omega) (by omega), hC 198 (by omega), hrf 198 (by omega) (by omega)]
      have e200 : F 200 = (exJ I).2 200 := by rw [FX 200 (by omega) (by omega) (by omega) (by omega) (by omega), hC 200 (by omega), hrf 200 (by omega) (by omega), hL 200 (by omega)]
      have e10 : F 1 0 = I 1 0 := by
        rw [F1 1 (by omega) (by omega), hC10, r5.1.1, hcf.2, b1 509 (by omega) (by omega), h509]
        exact hE.1.1.symm
      refine ⟨z, F, hTB, by rw [h508]; omega, hex, ?_, OK1_ok F86 r1⟩
      refine IV_push h (L := exK I) (fun x hx => hLI x (by omega)) hn FR (WfT_of hWC F1) (WfM_of w1.1.1 F9) ⟨q, hq, EL_of (hEC K q r5 w1.1.1) (fun x a b => F1 x a (by omega)) F9⟩ e10 (fun k hk => ?_) ?_ (fun x hx => FI x (by omega) (by omega) (by omega) (by omega) (by omega) (by omega) (by omega) (by omega) (by omega)) (fun x a b => by rw [FX x (by omega) (by omega) (by omega) (by omega) (by omega), hC x (by omega)]) (by rw [FX 201 (by omega) (by omega) (by omega) (by omega) (by omega), hC 201 (by omega)]) (F8 5 (by omega) (by omega) (by omega) (by omega) (by omega) (by omega) (by omega) (by omega)) (F8 43 (by omega) (by omega) (by omega) (by omega) (by omega) (by omega) (by omega) (by omega)) (F8 44 (by omega) (by omega) (by omega) (by omega) (by omega) (by omega) (by omega) (by omega)) (F8 45 (by omega) (by omega) (by omega) (by omega) (by omega) (by omega) (by omega) (by omega)) u2 F3 F11 (FI _ (by omega) (by omega) (by omega) (by omega) (by omega) (by omega) (by omega) (by omega) (by omega)) (FI _ (by omega) (by omega) (by omega) (by omega) (by omega) (by omega) (by omega) (by omega) (by omega)) (FI _ (by omega) (by omega) (by omega) (by omega) (by omega) (by omega) (by omega) (by omega) (by omega)) (FI _ (by omega) (by omega) (by omega) (by omega) (by omega) (by omega) (by omega) (by omega) (by omega)) (FI _ (by omega) (by omega) (by omega) (by omega) (by omega) (by omega) (by omega) (by omega) (by omega)) ⟨⟨⟨?_, ?_, ?_, ?_⟩, ?_, ?_⟩, ?_, ?_, ?_, ?_, ?_⟩
      · rw [FX 0 (by omega) (by omega) (by omega) (by omega) (by omega), hC 0 (by omega), v3 k hk, hLI 0 (by omega)]
      · rw [FX 0 (by omega) (by omega) (by omega) (by omega) (by omega), hC 0 (by omega)]; exact v2
      · rw [e98, hL4]; omega
      · rw [FI _ (by omega) (by omega) (by omega) (by omega) (by omega) (by omega) (by omega) (by omega) (by omega)]; exact k4.2.1
      · rw [e200]; exact d1.2.2.1
      · rw [e98, hL8 2 (by omega)]; exact d1.2.2.2
      · rw [e98, hL4, F88]
      · intro k hk
        rw [FI 199 (by omega) (by omega) (by omega) (by omega) (by omega) (by omega) (by omega) (by omega) (by omega), FI 513 (by omega) (by omega) (by omega) (by omega) (by omega) (by omega) (by omega) (by omega) (by omega)]
        exact i4.2.2 k hk
      · rw [e98, hL8 5 (by omega), F811]; exact exJ_5 hW1 k4 c
      · rw [F88]; omega
      · rw [FI 513 (by omega) (by omega) (by omega) (by omega) (by omega) (by omega) (by omega) (by omega) (by omega)]; exact i3.2.2.1
      · rw [F14]; exact w1.2.2.2.2.1
      · rw [F813]; exact w1.2.2.2.2.2.1
