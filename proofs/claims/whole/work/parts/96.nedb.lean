/-! needed -/
def NDF (J K : II) (p : Nat) : Prop := MI K ∧ (∀ j, j ≠ 15 + 10 * p → K 509 j = J 509 j) ∧ (∀ x, x ≤ 507 ∨ (510 ≤ x ∧ x ≤ 514) ∨ 537 ≤ x → K x = J x) ∧ ∀ k, KF k → K 508 k = J 508 k
theorem NDF.tr {A B C : II} {p : Nat} (h1 : NDF A B p) (h2 : NDF B C p) : NDF A C p := ⟨h2.1, fun j hj => (h2.2.1 j hj).trans (h1.2.1 j hj), fun x hx => (h2.2.2.1 x hx).trans (h1.2.2.1 x hx), fun k hk => (h2.2.2.2 k hk).trans (h1.2.2.2 k hk)⟩
theorem ndf_cn {J K : II} {p : Nat} {z : Int} (h : MI (up J 509 (15 + 10 * p) z)) (hK : cnO (up J 509 (15 + 10 * p) z) = some K) : NDF J K p :=
  ⟨cnO_MI hK h, fun j hj => by rw [cnO_s (by omega) hK, up_nk hj], fun x hx => by rw [cnO_s (by omega) hK, up_ne (by omega)], fun k hk => by rw [cnO_8 hk.1 hk.2.1 hk.2.2.1 hk.2.2.2.1 hk.2.2.2.2.1 hk.2.2.2.2.2 hK, up_ne (by omega)]⟩
def NDC (A C : II) : Prop := CI C 146 63 ∧ ∀ x, (x < 63 ∨ (94 ≤ x ∧ x < 146) ∨ 198 ≤ x) → C x = A x
theorem nd_sim {c p : Nat} (hc : c < 8) (hp : p ≤ 24) : ∀ (f z : Nat) (A J : II), z + f = 61 → EL A 63 J (p + 1) (p + 1) → CI A 146 63 → MI J → ∃ y K, nmL p c f z J = some (y, K) ∧ NDF J K p ∧ (psF J c = 3 → y = -1) ∧ (ndL c p f z A).1 = .inl (some (.int (ii y))) ∧ NDC A (ndL c p f z A).2
  | 0, z, A, J, _, _, hC, hM => ⟨-1, J, rfl, ⟨hM, fun _ _ => rfl, fun _ _ => rfl, fun _ _ => rfl⟩, fun _ => rfl, rfl, hC, fun _ _ => rfl⟩
  | f + 1, z, A, J, hz, hE, hC, hM => by
    have hMz : MI (up J 509 (15 + 10 * p) (z : Int)) := ⟨WfM_size hM.1 (by omega) (by omega), rg_up hM.2 (by omega)⟩
    have hEz := EL_size (y := (z : Int)) hM.1 hE (Nat.lt_succ_self p)
    have hCz : CI (up A (63 + 3) p (z : Int)) 146 63 := CI_of hC (WfE_size hC.1 (by omega)) (rg_up hC.2.1 (by omega)) (fun x a b => up_ne (by omega))
    obtain ⟨K, hK, hres, hK9⟩ := cnt_sim (c := 146) hEz hCz hMz (by omega)
    have hF := ndf_cn hMz hK
    have hCr := CI_run hCz (by omega)
    obtain ⟨w, R, _, _, hRR, _, _⟩ := hres
    have hst : runM (up A (63 + 3) p (z : Int)) 146 63 (146 + 3) c = K 525 c := hRR.2.1 (146 + 3) c 525 c (pr_st hc)
    have hfr : ∀ x, (x < 63 ∨ (94 ≤ x ∧ x < 146) ∨ 198 ≤ x) → runM (up A (63 + 3) p (z : Int)) 146 63 x = A x := fun x hx => by
      by_cases h1 : x < 146
      · rw [run_e h1, up_ne (by omega)]
      · rw [run_h (by omega), up_ne (by omega)]
    have e1 : nmL p c (f + 1) z J = if K 525 c = 1 then some ((z : Int), K) else nmL p c f (z + 1) K := by
      show (cnO (up J 509 (15 + 10 * p) (z : Int))).bind (fun K => if K 525 c = 1 then some ((z : Int), K) else nmL p c f (z + 1) K) = _
      rw [hK]
      rfl
    have e2 : ndL c p (f + 1) z A = if K 525 c = 1 then okI (z : Int) (runM (up A (63 + 3) p (z : Int)) 146 63) else ndL c p f (z + 1) (runM (up A (63 + 3) p (z : Int)) 146 63) := by
      rw [← hst]
      rfl
    rw [e1, e2]
    by_cases h1 : K 525 c = 1
    · rw [if_pos h1, if_pos h1]
      refine ⟨(z : Int), K, rfl, hF, fun h3 => ?_, rfl, hCr, hfr⟩
      have := (st_cn hMz.1 hK c hc).mpr (by rw [ps_of9 (J := J) (up_nk (by omega)) (up_nk (by omega))]; exact h3)
      omega
    · rw [if_neg h1, if_neg h1]
      have hE2 : EL (runM (up A (63 + 3) p (z : Int)) 146 63) 63 K (p + 1) (p + 1) := EL_of hEz (fun x a b => run_e (by omega)) hK9
      obtain ⟨y, L, l1, l2, l3, l4, l5⟩ := nd_sim hc hp f (z + 1) _ K (by omega) hE2 hCr hF.1
      refine ⟨y, L, l1, hF.tr l2, fun h3 => l3 ?_, l4, l5.1, fun x hx => (l5.2 x hx).trans (hfr x hx)⟩
      rw [ps_of9 (J := J) (hF.2.1 0 (by omega)) (hF.2.1 2 (by omega))]
      exact h3
/-- after a trial -/
theorem IV_ned {J F : II} {sl : Nat → Nat} (h : IV J sl) (hR : RG F) (hx : ∀ x, x < 508 → (x < 63 ∨ (94 ≤ x ∧ x < 146) ∨ 198 ≤ x) → F x = J x) (hC : CI F 146 63) (hm : ∀ x, (510 ≤ x ∧ x ≤ 514) ∨ 537 ≤ x → F x = J x) (h9 : WfM F) (hE : ELp F) (h24 : F 509 1 ≤ 24) (h8 : ∀ k, KF k → k ≠ 6 → k ≠ 14 → F 508 k = J 508 k) (h14 : F 508 14 = 0) : IV F sl := by
  obtain ⟨i1, i2, i3, i4, i5, i6, i7, i8, i9, i10, i11, i12⟩ := h
  obtain ⟨k1, k2, k3, k4, k5, k6, k7, k8, k9, k10, k11, k12, k13, k14⟩ := id i1
  obtain ⟨b1, b2, b3, b4, b5, b6⟩ := id i3
  have h00 : F 0 = J 0 := hx 0 (by omega) (by omega)
  have e8 : ∀ k, KF k → k ≠ 6 → k ≠ 14 → F 508 k = J 508 k := h8
  have kf : ∀ k, k ≠ 15 → k ≠ 32 → k ≠ 39 → k ≠ 40 → k ≠ 41 → k ≠ 42 → KF k := fun k a1 a2 a3 a4 a5 a6 => ⟨a1, a2, a3, a4, a5, a6⟩
  refine ⟨⟨CI_of k1 (WfE_of k1.1 fun x _ _ => hx x (by omega) (by omega)) hR fun x _ _ => hx x (by omega) (by omega), by rw [hx 1 (by omega) (by omega)]; exact k2, hC, TI0_of k4 (hx _ (by omega) (by omega)) (hx _ (by omega) (by omega)) (hx _ (by omega) (by omega)), RI_of k5 (hx _ (by omega) (by omega)), RI_of k6 (hx _ (by omega) (by omega)), WfT_of k7 fun x _ _ => hx x (by omega) (by omega), by rw [hx 201 (by omega) (by omega)]; exact k8, fun k hk => ?_, by rw [h00]; exact k10, by rw [h00]; exact k11, by rw [h00]; exact k12, by rw [h00]; exact k13, fun hc => RI_of (k14 (by rw [← h00]; exact hc)) (hx _ (by omega) (by omega))⟩, i2, ⟨⟨h9, hR⟩, by rw [e8 8 (kf _ (by omega) (by omega) (by omega) (by omega) (by omega) (by omega)) (by omega) (by omega)]; exact b2, by rw [hm 513 (by omega)]; exact b3, by rw [hm 514 (by omega)]; exact b4, by rw [e8 13 (kf _ (by omega) (by omega) (by omega) (by omega) (by omega) (by omega)) (by omega) (by omega)]; exact b5, h24⟩, TE_of i4 (hx _ (by omega) (by omega)) (hx _ (by omega) (by omega)) (hx _ (by omega) (by omega)) (e8 8 (kf _ (by omega) (by omega) (by omega) (by omega) (by omega) (by omega)) (by omega) (by omega)) (hm 513 (by omega)), ?_, hE, HSt_of i7 i2.1 k8 (by rw [hx 201 (by omega) (by omega)]) (fun x _ _ => hx x (by omega) (by omega)) (hm 511 (by omega)) (by rw [hx 1 (by omega) (by omega)]), fun hc => ELs_of (i8 (by rw [← h00]; exact hc)) (fun x _ _ => hx x (by omega) (by omega)) (hm 512 (by omega)), DRd_of i9 i1 (by rw [h00]) (by rw [hx 1 (by omega) (by omega)]) (fun x _ _ => hx x (by omega) (by omega)) (e8 44 (kf _ (by omega) (by omega) (by omega) (by omega) (by omega) (by omega)) (by omega) (by omega)) (e8 45 (kf _ (by omega) (by omega) (by omega) (by omega) (by omega) (by omega)) (by omega) (by omega)) (hm 537 (by omega)) (hm 538 (by omega)) (hm 539 (by omega)), DRs_of i10 i1 (by rw [h00]) (by rw [hx 464 (by omega) (by omega)]) (by rw [h00]) (fun x _ _ => hx x (by omega) (by omega)) (hm 540 (by omega)), CNT_of i11 (by rw [h00]) (fun x _ _ => hx x (by omega) (by omega)) (fun x _ _ => hx x (by omega) (by omega)), Or.inl h14, fun hc => by omega⟩
  · rw [hx 201 (by omega) (by omega)] at hk
    have := i2.1 k (by omega)
    exact WfT_of (k9 k hk) fun x _ _ => hx x (by omega) (by omega)
  · unfold FLs
    rw [hx 198 (by omega) (by omega), hx 201 (by omega) (by omega), h00, e8 11 (kf _ (by omega) (by omega) (by omega) (by omega) (by omega) (by omega)) (by omega) (by omega), e8 3 (kf _ (by omega) (by omega) (by omega) (by omega) (by omega) (by omega)) (by omega) (by omega), e8 43 (kf _ (by omega) (by omega) (by omega) (by omega) (by omega) (by omega)) (by omega) (by omega), e8 5 (kf _ (by omega) (by omega) (by omega) (by omega) (by omega) (by omega)) (by omega) (by omega)]
    exact i5
theorem nmB_9 {J J2 : II} {p c : Nat} (h : J2 509 = J 509) : nmB J2 p c 509 = nmB J p c 509 := by
  unfold nmB
  simp only [up_at, h]
theorem nmB_v {J : II} {n c : Nat} (hn : J 509 1 = (n : Int)) : up (nmB J n c) 509 (15 + 10 * n) 0 509 1 = (n : Int) + 1 ∧ up (nmB J n c) 509 (15 + 10 * n) 0 509 (15 + 10 * n) = 0 ∧ (∀ j, j ≠ 1 → j ≠ 15 + 10 * n → j ≠ 16 + 10 * n → j ≠ 17 + 10 * n → up (nmB J n c) 509 (15 + 10 * n) 0 509 j = J 509 j) ∧ ∀ x, x ≠ 509 → up (nmB J n c) 509 (15 + 10 * n) 0 x = J x := by
  unfold nmB
  exact ⟨by rw [up_nk (by omega), up_nk (by omega), up_nk (by omega), up_eq, hn], up_eq, fun j h1 h2 h3 h4 => by rw [up_nk h2, up_nk h4, up_nk h3, up_nk h1], fun x hx => by rw [up_ne hx, up_ne hx, up_ne hx, up_ne hx]⟩
/-- one pile more, of no papers -/
theorem EL_ext0 {A J E : II} {n : Nat} (h : EL A 1 J n n) (hW : WfM J) (hn : n ≤ 24) (h1 : E 509 1 = (n : Int) + 1) (h2 : E 509 (15 + 10 * n) = 0) (h3 : ∀ j, j ≠ 1 → j ≠ 15 + 10 * n → j ≠ 16 + 10 * n → j ≠ 17 + 10 * n → E 509 j = J 509 j) : EL A 1 E n (n + 1) := by
  obtain ⟨⟨a1, a2, a3, a4, a5, a6⟩, b1, d, f, g, k⟩ := h
  have w0 := hW.1
  refine ⟨⟨by rw [h3 0 (by omega) (by omega) (by omega) (by omega)]; exact a1, by rw [h3 2 (by omega) (by omega) (by omega) (by omega)]; exact a2, a3, by rw [h1]; omega, by omega, by omega⟩, fun i hi => by rw [h3 _ (by omega) (by omega) (by omega) (by omega)]; exact b1 i hi, fun i hi => by rw [h3 _ (by omega) (by omega) (by omega) (by omega)]; exact d i hi, fun q hq => ?_, fun q hq1 hq2 => ?_, fun c9 hc9 => ?_⟩
  · have w4 := hW.2.2.2.2.1 q (by omega)
    obtain ⟨f1, f2, f3⟩ := f q hq
    have e1 : mSz E q = mSz J q := h3 _ (by omega) (by omega) (by omega) (by omega)
    have e2 : mLn E q = mLn J q := h3 _ (by omega) (by omega) (by omega) (by omega)
    rw [e1, e2]
    refine ⟨f1, f2, fun i hi => ?_⟩
    rw [f3 i hi]
    exact (h3 (17 + 10 * q + i) (by omega) (by omega) (by omega) (by omega)).symm
  · have hqn : q = n := by omega
    subst hqn
    exact h2
  · rw [h3 0 (by omega) (by omega) (by omega) (by omega)] at hc9 ⊢
    obtain ⟨i, hi, hi2⟩ := k c9 hc9
    exact ⟨i, hi, by rw [h3 _ (by omega) (by omega) (by omega) (by omega)]; exact hi2⟩
/-- the present election once the pile is taken back -/
theorem EL_back {J E : II} {n : Nat} (h : EL J 1 J n n) (hW : WfM J) (hn : n ≤ 24) (hx : ∀ x, 1 ≤ x → x < 32 → E x = J x) (h1 : E 509 1 = (n : Int)) (h3 : ∀ j, j ≠ 1 → j ≠ 15 + 10 * n → j ≠ 16 + 10 * n → j ≠ 17 + 10 * n → E 509 j = J 509 j) : EL E 1 E n n := by
  obtain ⟨⟨a1, a2, a3, a4, a5, a6⟩, b1, d, f, g, k⟩ := h
  have w0 := hW.1
  refine ⟨⟨by rw [hx 1 (by omega) (by omega), h3 0 (by omega) (by omega) (by omega) (by omega)]; exact a1, by rw [hx 1 (by omega) (by omega), h3 2 (by omega) (by omega) (by omega) (by omega)]; exact a2, by rw [hx 1 (by omega) (by omega)]; exact a3, h1, by omega, by omega⟩, fun i hi => by rw [hx _ (by omega) (by omega), h3 _ (by omega) (by omega) (by omega) (by omega)]; exact b1 i hi, fun i hi => by rw [hx _ (by omega) (by omega), h3 _ (by omega) (by omega) (by omega) (by omega)]; exact d i hi, fun q hq => ?_, fun q hq1 hq2 => by omega, fun c9 hc9 => ?_⟩
  · have w4 := hW.2.2.2.2.1 q (by omega)
    obtain ⟨f1, f2, f3⟩ := f q hq
    have e1 : mSz E q = mSz J q := h3 _ (by omega) (by omega) (by omega) (by omega)
    have e2 : mLn E q = mLn J q := h3 _ (by omega) (by omega) (by omega) (by omega)
    rw [e1, e2, hx _ (by omega) (by omega), hx _ (by omega) (by omega), hx _ (by omega) (by omega)]
    refine ⟨f1, f2, fun i hi => ?_⟩
    rw [f3 i hi]
    exact (h3 (17 + 10 * q + i) (by omega) (by omega) (by omega) (by omega)).symm
  · rw [h3 0 (by omega) (by omega) (by omega) (by omega)] at hc9 ⊢
    obtain ⟨i, hi, hi2⟩ := k c9 hc9
    exact ⟨i, hi, by rw [h3 _ (by omega) (by omega) (by omega) (by omega)]; exact hi2⟩
/-- the model's tries, over class cells that are like the counted ones but for the trial's -/
theorem nd_mod {J C : II} {sl : Nat → Nat} {c n : Nat} (h : IV J sl) (h10 : J 0 10 = 1) (hc : (c : Int) < J 1 0) (hn : J 509 1 = (n : Int)) (hC : NDC J C) (hRC : RG C) :
    ∃ y K9, nmL n c 61 0 (nmB (up C 508 6 0) n c) = some (y, K9) ∧ IV (nmE K9) sl ∧ nmE K9 508 6 = 0 ∧ (J (94 + 1 + 2) c = 1 → y = 0) ∧ (J (94 + 1 + 2) c = 3 → y = -1) ∧ (¬ J (94 + 1 + 2) c = 1 → ¬ J (94 + 1 + 2) c = 3 → (ndL c n 60 1 (addForM (cpyE J 1 63) 63 (c : Int))).1 = .inl (some (.int (ii y)))) ∧ NDC J (ndL c n 60 1 (addForM (cpyE J 1 63) 63 (c : Int))).2 := by
  obtain ⟨i1, i2, i3, i4, i5, ⟨m, hm, hE⟩, i7, i8, i9, i10, i11, i12⟩ := id h
  have hmn : m = n := by have := hE.1.2.2.2.1; omega
  subst hmn
  have hW := i3.1.1
  have w0 := hW.1
  have hc8 : c < 8 := by have := i1.1.1.2.1; omega
  have hCx : ∀ x, 198 ≤ x → C x = J x := fun x hx => hC.2 x (by omega)
  have hM9 : up C 508 6 0 509 = J 509 := by rw [up_ne (by omega), hCx 509 (by omega)]
  have hM1 : up C 508 6 0 509 1 = (m : Int) := by rw [hM9]; exact hn
  obtain ⟨n1, n2, n3, n4⟩ := nmB_v (J := up C 508 6 0) (c := c) hM1
  have hMIC : MI C := ⟨WfM_of hW (hCx 509 (by omega)), hRC⟩
  have hMb : MI (nmB (up C 508 6 0) m c) := by
    have := nb_MI (I := C) (n := m) (q := c) hMIC ⟨by rw [hCx 509 (by omega)]; exact hn, by omega⟩ hc8
    unfold nmB
    rw [up_ne (show (509 : Nat) ≠ 508 by omega)]
    exact this
  have hME : MI (up (nmB (up C 508 6 0) m c) 509 (15 + 10 * m) 0) := ⟨WfM_size hMb.1 (by omega) (by omega), rg_up hMb.2 (by omega)⟩
  have n3J : ∀ j, j ≠ 1 → j ≠ 15 + 10 * m → j ≠ 16 + 10 * m → j ≠ 17 + 10 * m → up (nmB (up C 508 6 0) m c) 509 (15 + 10 * m) 0 509 j = J 509 j := fun j a1 a2 a3 a4 => by rw [n3 j a1 a2 a3 a4, hM9]
  -- the class's own count against the count with a pile of none
  obtain ⟨A, hA1, hA2, hA3⟩ := i11 h10
  have hEA : EL A 1 J m m := EL_of hE (fun x a b => hA2 x a (by omega)) rfl
  obtain ⟨K0, hK0, hres, hK9⟩ := cnt_sim (c := 94) (EL_ext0 hEA hW hm n1 n2 n3J) hA1 hME (by omega)
  obtain ⟨w, R, _, _, hRR, _, _⟩ := hres
  have hst : J (94 + 1 + 2) c = K0 525 c := by
    rw [hA3 (94 + 1 + 2) (by omega) (by omega)]
    exact hRR.2.1 (94 + 3) c 525 c (pr_st hc8)
  have hF0 : NDF (nmB (up C 508 6 0) m c) K0 m := ndf_cn hME hK0
  have e1 : nmL m c 61 0 (nmB (up C 508 6 0) m c) = if K0 525 c = 1 then some (0, K0) else nmL m c 60 1 K0 := by
    show (cnO (up (nmB (up C 508 6 0) m c) 509 (15 + 10 * m) ((0 : Nat) : Int))).bind (fun K => if K 525 c = 1 then some (((0 : Nat) : Int), K) else nmL m c 60 (0 + 1) K) = _
    have : ((0 : Nat) : Int) = 0 := rfl
    rw [this, hK0]
    rfl
  -- the class's trial
  have hE63 : EL (cpyE J 1 63) 63 J m m := EL_cpy hE (by omega) hW
  have hT : EL (addForM (cpyE J 1 63) 63 (c : Int)) 63 K0 (m + 1) (m + 1) := by
    have h1 := EL_addFor (c := c) hE63 hW hm
    refine EL_of h1 (fun _ _ _ => rfl) ?_
    rw [hK9, up_at, up_at, nmB_9 hM9]
  have hT4 : 0 ≤ cpyE J 1 63 63 4 ∧ cpyE J 1 63 63 4 ≤ 24 := by
    rw [cpE_4, hE.1.2.2.1]; omega
  have hWT : WfE (addForM (cpyE J 1 63) 63 (c : Int)) 63 := WfE_addFor (WfE_eq (cpyE_eq (by omega)) i1.1.1) hT4.2 (by omega)
  have hTx : ∀ x, x < 63 ∨ 94 ≤ x → addForM (cpyE J 1 63) 63 (c : Int) x = J x := fun x hx => by rw [addFor_e (by omega) hT4, cpyE_e (by omega)]
  have hCT : CI (addForM (cpyE J 1 63) 63 (c : Int)) 146 63 := CI_of i1.2.2.1 hWT (rg_addFor (rg_cpyE h.rg) (by omega) hT4) (fun x a b => hTx x (by omega))
  obtain ⟨y1, K1, l1, l2, l3, l4, l5⟩ := nd_sim hc8 hm 60 1 _ K0 (by omega) hT hCT hF0.1
  have l5J : NDC J (ndL c m 60 1 (addForM (cpyE J 1 63) 63 (c : Int))).2 := ⟨l5.1, fun x hx => (l5.2 x hx).trans (hTx x (by omega))⟩
  -- what is left at the end
  have hend : ∀ K9, NDF (nmB (up C 508 6 0) m c) K9 m → IV (nmE K9) sl ∧ nmE K9 508 6 = 0 := by
    intro K9 hF
    have b8 : ∀ k, nmB (up C 508 6 0) m c 508 k = up C 508 6 0 508 k := fun k => by rw [nb_s (by omega)]
    have E8 : ∀ k, k ≠ 14 → nmE K9 508 k = K9 508 k := fun k hk => by unfold nmE; rw [up_nk hk, up_ne (by omega)]
    have EX : ∀ x, x ≠ 508 → x ≠ 509 → nmE K9 x = K9 x := fun x a b => by unfold nmE; rw [up_ne a, up_ne b]
    have E14 : nmE K9 508 14 = 0 := up_eq
    have n19 : nmB (up C 508 6 0) m c 509 1 = (m : Int) + 1 := by
      have := n1
      rw [up_nk (by omega)] at this
      exact this
    have E91 : nmE K9 509 1 = (m : Int) := by
      unfold nmE
      rw [up_ne (by omega), up_eq, hF.2.1 1 (by omega), n19]
      omega
    have E9 : ∀ j, j ≠ 1 → nmE K9 509 j = K9 509 j := fun j hj => by unfold nmE; rw [up_ne (by omega), up_nk hj]
    have E9J : ∀ j, j ≠ 1 → j ≠ 15 + 10 * m → j ≠ 16 + 10 * m → j ≠ 17 + 10 * m → nmE K9 509 j = J 509 j := fun j a1 a2 a3 a4 => by
      rw [E9 j a1, hF.2.1 j a2, ← up_nk (I := nmB (up C 508 6 0) m c) (a := 509) (k := 15 + 10 * m) (z := 0) a2, n3J j a1 a2 a3 a4]
    have hR : RG (nmE K9) := by
      unfold nmE
      refine rg_up (rg_up hF.1.2 ?_) (by omega)
      rw [hF.2.1 1 (by omega), n19]
      omega
    have hWE : WfM (nmE K9) := by
      have h2 : WfM (up K9 509 1 (K9 509 1 - 1)) := WfM_s hF.1.1 (fun q => by omega) (fun _ => by rw [hF.2.1 1 (by omega), n19]; omega) (fun q => by omega) (fun _ _ q => by omega) (fun _ _ q => by omega) (fun _ _ _ _ q => by omega) (fun _ _ q => by omega) (fun q => by omega) (fun q => by omega) (fun q => by omega) (fun q => by omega)
      exact WfM_of h2 (by unfold nmE; rw [up_ne (by omega)])
    have hxC : ∀ x, x ≤ 507 → nmE K9 x = C x := fun x hx => by rw [EX x (by omega) (by omega), hF.2.2.1 x (by omega), nb_s (by omega), up_ne (by omega)]
    refine ⟨IV_ned h hR (fun x a b => by rw [hxC x (by omega)]; exact hC.2 x b) (CI_of hC.1 (WfE_of hC.1.1 fun x _ _ => hxC x (by omega)) hR fun x _ _ => hxC x (by omega)) (fun x hx => by rw [EX x (by omega) (by omega), hF.2.2.1 x (by omega), nb_s (by omega), up_ne (by omega), hCx x (by omega)]) hWE ⟨m, hm, EL_back hE hW hm (fun x a b => by rw [hxC x (by omega)]; exact hC.2 x (by omega)) E91 E9J⟩ (by rw [E91]; omega) (fun k hk h6 h14 => by rw [E8 k h14, hF.2.2.2 k hk, b8, up_nk h6, hCx 508 (by omega)]) E14, ?_⟩
    rw [E8 6 (by omega), hF.2.2.2 6 ⟨by omega, by omega, by omega, by omega, by omega, by omega⟩, b8]
    exact up_eq
  by_cases h1 : K0 525 c = 1
  · refine ⟨0, K0, by rw [e1, if_pos h1], (hend K0 hF0).1, (hend K0 hF0).2, fun _ => rfl, fun h3 => by omega, fun h3 => by omega, l5J⟩
  · refine ⟨y1, K1, by rw [e1, if_neg h1]; exact l1, (hend K1 (hF0.tr l2)).1, (hend K1 (hF0.tr l2)).2, fun h3 => by omega, fun h3 => l3 ?_, fun _ _ => l4, l5J⟩
    have h4 := (st_cn hME.1 hK0 c hc8).mp (by omega)
    rw [ps_of9 (J := up (nmB (up C 508 6 0) m c) 509 (15 + 10 * m) 0) (by rw [hK9]) (by rw [hK9])]
    exact h4
theorem s_needed {I : II} {sl : Nat → Nat} {c : Int} (h : IV I sl) : MI (ndR I c).2 ∧ (ndR I c).2 509 1 ≤ 24 ∧ ∃ y9 K9, (tWd (ndR I c).2 c = 0 → nmL ((ndR I c).2 509 1).toNat c.toNat 61 0 (nmB (up (ndR I c).2 508 6 0) ((ndR I c).2 509 1).toNat c.toNat) = some (y9, K9)) ∧ IV (if tWd (ndR I c).2 c ≤ 0 then (y9, nmE K9) else (0, up (ndR I c).2 508 6 (tWd (ndR I c).2 c))).2 sl ∧ OK1 IOB (ndR I c) (if tWd (ndR I c).2 c ≤ 0 then (y9, nmE K9) else (0, up (ndR I c).2 508 6 (tWd (ndR I c).2 c))).1 (if tWd (ndR I c).2 c ≤ 0 then (y9, nmE K9) else (0, up (ndR I c).2 508 6 (tWd (ndR I c).2 c))).2 := by
  obtain ⟨m, hm, hE⟩ := id h.2.2.2.2.2.1
  by_cases cc : icF I c = 0
  · have hc0 := icF_0 cc
    have e : ndR I c = erI IOB I := if_pos cc
    have ht : tWd I c = 1 := if_pos (by rw [inF_0]; have := hE.1.1; omega)
    rw [e]
    show MI I ∧ I 509 1 ≤ 24 ∧ ∃ y9 K9, (tWd I c = 0 → nmL (I 509 1).toNat c.toNat 61 0 (nmB (up I 508 6 0) (I 509 1).toNat c.toNat) = some (y9, K9)) ∧ IV (if tWd I c ≤ 0 then (y9, nmE K9) else (0, up I 508 6 (tWd I c))).2 sl ∧ OK1 IOB (erI IOB I) (if tWd I c ≤ 0 then (y9, nmE K9) else (0, up I 508 6 (tWd I c))).1 (if tWd I c ≤ 0 then (y9, nmE K9) else (0, up I 508 6 (tWd I c))).2
    rw [ht]
    refine ⟨h.mi, h.2.2.1.2.2.2.2.2, 0, I, (fun h => absurd h (by decide)), ?_⟩
    rw [if_neg (by decide)]
    exact ⟨IV_thr h (by omega), by dsimp only; exact OK1_e up_eq⟩
  · have hc1 := icF_1 cc
    obtain ⟨h1, h10, hlo, hhi⟩ := IV_ct h
    have en : ctM I 1 4 = (m : Int) := by rw [hlo 1 (by omega) (by omega)]; exact hE.1.2.2.1
    have en9 : ctM I 509 1 = (m : Int) := by rw [hhi 509 (by omega)]; exact hE.1.2.2.2.1
    have ec : (c.toNat : Int) = c := by omega
    have e : ndR I c = if ctM I (94 + 1 + 2) c.toNat = 1 then okI 0 (ctM I) else if ctM I (94 + 1 + 2) c.toNat = 3 then okI (-1) (ctM I) else ndL c.toNat m 60 1 (addForM (cpyE (ctM I) 1 63) 63 (c.toNat : Int)) := by
      unfold ndR
      rw [if_neg cc, en, ec]
      rfl
    have hcJ : (c.toNat : Int) < ctM I 1 0 := by rw [hlo 1 (by omega) (by omega)]; omega
    have e90 : ctM I 509 0 = ctM I 1 0 := by rw [hhi 509 (by omega), hlo 1 (by omega) (by omega)]; exact hE.1.1.symm
    generalize ctM I = J at *
    -- in each case: class cells C like J but for the trial's
    have key : ∀ (r : RR), NDC J r.2 → RG r.2 → (∀ y K9, nmL m c.toNat 61 0 (nmB (up r.2 508 6 0) m c.toNat) = some (y, K9) → IV (nmE K9) sl → nmE K9 508 6 = 0 → (J (94 + 1 + 2) c.toNat = 1 → y = 0) → (J (94 + 1 + 2) c.toNat = 3 → y = -1) → (¬ J (94 + 1 + 2) c.toNat = 1 → ¬ J (94 + 1 + 2) c.toNat = 3 → (ndL c.toNat m 60 1 (addForM (cpyE J 1 63) 63 (c.toNat : Int))).1 = .inl (some (.int (ii y)))) → r.1 = .inl (some (.int (ii y)))) → MI r.2 ∧ r.2 509 1 ≤ 24 ∧ ∃ y9 K9, (tWd r.2 c = 0 → nmL (r.2 509 1).toNat c.toNat 61 0 (nmB (up r.2 508 6 0) (r.2 509 1).toNat c.toNat) = some (y9, K9)) ∧ IV (if tWd r.2 c ≤ 0 then (y9, nmE K9) else (0, up r.2 508 6 (tWd r.2 c))).2 sl ∧ OK1 IOB r (if tWd r.2 c ≤ 0 then (y9, nmE K9) else (0, up r.2 508 6 (tWd r.2 c))).1 (if tWd r.2 c ≤ 0 then (y9, nmE K9) else (0, up r.2 508 6 (tWd r.2 c))).2 := by
      intro r hr1 hr2 hr3
      have h509 : r.2 509 = J 509 := hr1.2 509 (by omega)
      have ht : tWd r.2 c = 0 := if_neg (by rw [inF_0, h509]; omega)
      obtain ⟨y, K9, q1, q2, q3, q4, q5, q6, q7⟩ := nd_mod h1 h10 hcJ en9 hr1 hr2
      rw [ht, h509, en9, Int.toNat_natCast]
      refine ⟨⟨WfM_of h1.mi.1 h509, hr2⟩, by omega, y, K9, fun _ => q1, ?_⟩
      rw [if_pos (Int.le_refl 0)]
      exact ⟨q2, Or.inl ⟨y, hr3 y K9 q1 q2 q3 q4 q5 q6, q3, rfl⟩⟩
    have hself : NDC J J := ⟨h1.1.2.2.1, fun _ _ => rfl⟩
    rw [e]
    by_cases s1 : J (94 + 1 + 2) c.toNat = 1
    · rw [if_pos s1]
      exact key (okI 0 J) hself h1.rg (fun y K9 _ _ _ p1 _ _ => by rw [p1 s1]; rfl)
    · rw [if_neg s1]
      by_cases s3 : J (94 + 1 + 2) c.toNat = 3
      · rw [if_pos s3]
        exact key (okI (-1) J) hself h1.rg (fun y K9 _ _ _ _ p3 _ => by rw [p3 s3]; rfl)
      · rw [if_neg s3]
        obtain ⟨y, K9, q1, q2, q3, q4, q5, q6, q7⟩ := nd_mod h1 h10 hcJ en9 hself h1.rg
        exact key _ q7 q7.1.2.1 (fun y K9 _ _ _ _ _ p => p s1 s3)
