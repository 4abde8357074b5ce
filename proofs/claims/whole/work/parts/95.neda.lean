/-! needed: who stands and who doesn't -/
def S3 (J K : II) : Prop := ∀ c, c < 8 → (K 525 c = 3 ↔ J 525 c = 3)
theorem S3.rf {J K : II} (h : K 525 = J 525) : S3 J K := fun c _ => by rw [h]
theorem S3.tr {A B C : II} (h1 : S3 A B) (h2 : S3 B C) : S3 A C := fun c hc => (h2 c hc).trans (h1 c hc)
theorem lkV_in {J : II} {r s : Nat} {m : Int} (hW : WfM J) (h : 0 ≤ lkV J r s m) : btI s (lkV J r s m).toNat = 1 := by
  have w0 := hW.1
  have hf : ∀ k, k < (J 509 0).toNat → 0 ≤ (fun k => J 509 (7 + k)) k := fun k hk => (hW.2.2.2.2.2.2.1 k (by omega)).1
  rcases lk_in (f := fun k => J 509 (7 + k)) (s := (lkQ J r s m r).1) (m := m) (J 509 0).toNat hf with h1 | ⟨k, hk, h1, h2⟩
  · have h3 : lkV J r s m = -1 := h1
    omega
  · have h3 : lkV J r s m = J 509 (7 + k) := h1
    have h4 := hW.2.2.2.2.2.2.1 k (by omega)
    have h2 : btI (lkQ J r s m r).1 (J 509 (7 + k)).toNat = 1 := h2
    have h5 := (ch_sub (F := mVt J) (n := (J 509 0).toNat) (r := r) (tr := J 509 5) (m := m) (s := s) (by omega) r).2 (J 509 (7 + k)).toNat (by omega) h2
    rw [h3]
    exact h5.2
theorem lk_hp0 {J : II} {r : Nat} {m ls : Int} (hW : WfM J) (h : 0 ≤ lkV J r (hpN J ls) m) : J 525 (lkV J r (hpN J ls) m).toNat = 0 := by
  have h1 := lkV_in hW h
  have h2 := lkV_lt hW h
  have w0 := hW.1
  rw [hp_bt (by omega) (by omega)] at h1
  by_cases hc : (lkV J r (hpN J ls) m).toNat < (J 509 0).toNat ∧ J 525 (lkV J r (hpN J ls) m).toNat = 0 ∧ ls ≤ J 531 (lkV J r (hpN J ls) m).toNat
  · exact hc.2.1
  · rw [if_neg hc] at h1
    omega
theorem s3_up {J : II} {q : Nat} {z : Int} (h0 : J 525 q = 0) (hz : ¬ z = 3) : S3 J (up J 525 q z) := by
  intro c hc
  by_cases hq : c = q
  · subst hq
    rw [up_eq, h0]
    omega
  · rw [up_nk hq]
theorem s3_em {J : II} {r s q : Nat} {rs : Int} (h0 : J 525 q = 0) : S3 J (emM J r s rs q) := by
  have h1 : S3 J (up (lkM J r s 1) 525 q 1) := (S3.rf (J := J) (K := lkM J r s 1) (lkM_ne (by omega))).tr (s3_up (by rw [lkM_ne (by omega)]; exact h0) (by decide))
  refine h1.tr (S3.rf ?_)
  unfold emM
  rw [up_ne (by omega), up_ne (by omega), up_ne (by omega), up_ne (by omega), up_ne (by omega), up_ne (by omega)]
theorem wf_em {J : II} {r s q : Nat} {rs : Int} (h : WfM J) : WfM (emM J r s rs q) := WfM_of h (em_e (by omega) (by omega) (by omega) (by omega) (by omega) (by omega) (by omega))
theorem s3_wq {r : Nat} {qv : Int} {K : II} : ∀ (k : Nat) (J : II), wqL r qv k J = some K → WfM J → S3 J K
  | 0, _, h, _ => by cases h
  | k + 1, J, h, hW => by
    unfold wqL at h
    split at h
    · split at h
      · rename_i hc
        exact (s3_em (lk_hp0 hW hc.1)).tr (s3_wq k _ h (wf_em hW))
      · cases h
    · obtain rfl : J = K := by simpa using h
      exact S3.rf rfl
theorem s3_wa {r : Nat} {fr : Int} {K : II} : ∀ (k : Nat) (J : II), waL r fr k J = some K → WfM J → S3 J K
  | 0, _, h, _ => by cases h
  | k + 1, J, h, hW => by
    unfold waL at h
    split at h
    · split at h
      · rename_i hc
        exact (s3_em (lk_hp0 hW hc.1)).tr (s3_wa k _ h (wf_em hW))
      · cases h
    · obtain rfl : J = K := by simpa using h
      exact S3.rf rfl
theorem s3_cn {K : II} : ∀ (k r : Nat) (I : II), cnL k r I = some K → WfM I → S3 I K
  | 0, _, _, h, _ => by cases h
  | k + 1, r, I, h, hW => by
    unfold cnL at h
    obtain ⟨⟨b, L⟩, hR, hT⟩ := Option.bind_eq_some_iff.mp h
    have hL : S3 I L ∧ WfM L := by
      unfold rdS at hR
      obtain ⟨K1, hQ, hR⟩ := Option.bind_eq_some_iff.mp hR
      have hWn : WfM (noM I r) := WfM_of hW (no_e (by omega) (by omega) (by omega) (by omega))
      have e1 : S3 I K1 := (S3.rf (J := I) (K := noM I r) (no_e (by omega) (by omega) (by omega) (by omega))).tr (s3_wq _ _ hQ hWn)
      have hW1 : WfM K1 := WfM_of hWn (wq_s (by omega) (by omega) _ _ hQ)
      unfold rdT at hR
      split at hR
      · split at hR
        · obtain ⟨L2, hL, h9⟩ := Option.map_eq_some_iff.mp hR
          obtain ⟨-, rfl⟩ : (0 : Int) = b ∧ L2 = L := by simpa using h9
          exact ⟨e1.tr (s3_wa _ _ hL hW1), WfM_of hW1 (wa_s (by omega) (by omega) _ _ hL)⟩
        · split at hR
          · split at hR
            · obtain ⟨L2, hL, h9⟩ := Option.map_eq_some_iff.mp hR
              obtain ⟨-, rfl⟩ : (1 : Int) = b ∧ L2 = L := by simpa using h9
              unfold trO tfA at hL
              obtain ⟨⟨K2, u2⟩, hT2, rfl⟩ := Option.map_eq_some_iff.mp hL
              have h5 : ∀ x, x ≠ 534 → x ≠ 536 → x ≠ 533 → x ≠ 531 → x ≠ 508 → x ≠ 535 → K2 x = K1 x := fun x a1 a2 a3 a4 a5 a6 => by rw [tf_s a1 a2 a3 a4 a5 a6 _ _ _ _ hT2, lkM_ne a5]
              unfold tfE
              refine ⟨e1.tr (S3.rf ?_), WfM_of hW1 ?_⟩
              · rw [hn_e (by omega) (by omega) (by omega), up_ne (by omega), up_ne (by omega), up_ne (by omega)]
                exact h5 525 (by omega) (by omega) (by omega) (by omega) (by omega) (by omega)
              · rw [hn_e (by omega) (by omega) (by omega), up_ne (by omega), up_ne (by omega), up_ne (by omega)]
                exact h5 509 (by omega) (by omega) (by omega) (by omega) (by omega) (by omega)
            · cases hR
          · obtain ⟨L2, hL, h9⟩ := Option.map_eq_some_iff.mp hR
            obtain ⟨-, rfl⟩ : (1 : Int) = b ∧ L2 = L := by simpa using h9
            unfold exO at hL
            split at hL
            · rename_i hv
              unfold xcB at hL
              obtain ⟨K2, hT2, rfl⟩ := Option.map_eq_some_iff.mp hL
              have h5 : ∀ x, x ≠ 534 → x ≠ 536 → x ≠ 533 → x ≠ 531 → x ≠ 508 → K2 x = xcA (lkM K1 r (hpF K1 0 (K1 509 0).toNat) 0) r (lkV K1 r (hpF K1 0 (K1 509 0).toNat) 0).toNat (xcR (lkM K1 r (hpF K1 0 (K1 509 0).toNat) 0) r (hpF K1 0 (K1 509 0).toNat)) x := fun x a1 a2 a3 a4 a5 => xc_s a1 a2 a3 a4 a5 _ _ _ hT2
              refine ⟨e1.tr ?_, WfM_of hW1 ?_⟩
              · have h6 : S3 K1 (up (lkM K1 r (hpF K1 0 (K1 509 0).toNat) 0) 525 (lkV K1 r (hpF K1 0 (K1 509 0).toNat) 0).toNat 2) := (S3.rf (J := K1) (K := lkM K1 r (hpF K1 0 (K1 509 0).toNat) 0) (lkM_ne (by omega))).tr (s3_up (by rw [lkM_ne (by omega)]; exact lk_hp0 hW1 hv) (by decide))
                refine h6.tr (S3.rf ?_)
                rw [hn_e (by omega) (by omega) (by omega), h5 525 (by omega) (by omega) (by omega) (by omega) (by omega)]
                unfold xcA
                rw [up_ne (by omega), up_ne (by omega), up_ne (by omega), up_ne (by omega)]
              · rw [hn_e (by omega) (by omega) (by omega), h5 509 (by omega) (by omega) (by omega) (by omega) (by omega), xcA_e (by omega) (by omega) (by omega) (by omega) (by omega), lkM_ne (by omega)]
            · cases hL
      · cases hR
    have hL2 : S3 I (up L 508 15 ((r : Int) + 1)) := hL.1.tr (S3.rf (up_ne (by omega)))
    have hW2 : WfM (up L 508 15 ((r : Int) + 1)) := WfM_of hL.2 (up_ne (by omega))
    replace hT : (if b = 0 then some (up L 508 15 ((r : Int) + 1)) else cnL k (r + 1) (up L 508 15 ((r : Int) + 1))) = some K := hT
    split at hT
    · obtain rfl : up L 508 15 ((r : Int) + 1) = K := by simpa using hT
      exact hL2
    · exact hL2.tr (s3_cn k (r + 1) _ hT hW2)
theorem st_cn {I K : II} (hW : WfM I) (h : cnO I = some K) : ∀ c, c < 8 → (K 525 c = 3 ↔ psF I c = 3) := by
  have h9 : prM I 509 = I 509 := pp_s _
  have h5 : ∀ p, foldUp ppS (prA I) p 525 = prA I 525 := by
    intro p
    induction p with
    | zero => rw [fold_0]
    | succ p ih =>
      show goM (up (foldUp ppS (prA I) p) 535 p 10000) p (-1) (-1) 525 = _
      rw [goM_e (by omega) (by omega) (by omega) (by omega) (by omega), up_ne (by omega)]
      exact ih
  intro c hc
  rw [s3_cn 9 0 _ h (WfM_of hW h9) c hc]
  have e : prM I 525 c = psF I c := by
    show foldUp ppS (prA I) _ 525 c = _
    rw [h5]
    exact (pq_v (J := I) 8 c hc).1
  rw [e]
theorem ps_of9 {J K : II} {c : Nat} (h0 : K 509 0 = J 509 0) (h2 : K 509 2 = J 509 2) : psF K c = psF J c := by
  unfold psF
  rw [h0, h2]
/-- a trial's pile for one candidate alone -/
theorem EL_addFor {I J : II} {n c : Nat} (h : EL I 63 J n n) (hW : WfM J) (hn : n ≤ 24) : EL (addForM I 63 (c : Int)) 63 (up (nmB J n c) 509 (15 + 10 * n) 0) (n + 1) (n + 1) := by
  obtain ⟨⟨a1, a2, a3, a4, a5, a6⟩, b1, d, f, g, k⟩ := h
  have N : ∀ j, j ≠ 1 → j ≠ 15 + 10 * n → j ≠ 16 + 10 * n → j ≠ 17 + 10 * n → up (nmB J n c) 509 (15 + 10 * n) 0 509 j = J 509 j := fun j h1 h2 h3 h4 => by
    unfold nmB
    rw [up_nk h2, up_nk h4, up_nk h3, up_nk h1]
  have N1 : up (nmB J n c) 509 (15 + 10 * n) 0 509 1 = (n : Int) + 1 := by
    unfold nmB
    rw [up_nk (by omega), up_nk (by omega), up_nk (by omega), up_eq, a4]
  have A0 : ∀ q, q ≠ 4 → addForM I 63 (c : Int) 63 q = I 63 q := fun q hq => by
    unfold addForM
    rw [up_nk hq, up_ne (by omega), up_ne (by omega), up_ne (by omega)]
  have A4 : addForM I 63 (c : Int) 63 4 = (n : Int) + 1 := by
    unfold addForM
    rw [up_eq, a3]
  have A12 : ∀ x, x = 64 ∨ x = 65 → addForM I 63 (c : Int) x = I x := fun x hx => by
    unfold addForM
    rw [up_ne (by omega), up_ne (by omega), up_ne (by omega), up_ne (by omega)]
  have AI : ∀ q, addForM I 63 (c : Int) (63 + 3) q = if q = n then 0 else I (63 + 3) q := fun q => by
    unfold addForM
    rw [a3, Int.toNat_natCast, up_ne (by omega), up_ne (by omega), up_ne (by omega)]
    by_cases hq : q = n
    · subst hq; rw [up_eq, if_pos rfl]
    · rw [up_nk hq, if_neg hq]
  have AL : ∀ q, addForM I 63 (c : Int) (63 + 4) q = if q = n then 1 else I (63 + 4) q := fun q => by
    unfold addForM
    rw [a3, Int.toNat_natCast, up_ne (by omega), up_ne (by omega)]
    by_cases hq : q = n
    · subst hq; rw [up_eq, if_pos rfl]
    · rw [up_nk hq, if_neg hq, up_ne (by omega)]
  have AR : ∀ q i, q < n → addForM I 63 (c : Int) (63 + 6 + q) i = I (63 + 6 + q) i := fun q i hq => by
    unfold addForM
    rw [a3, Int.toNat_natCast, up_ne (by omega), up_ne (by omega), up_ne (by omega), up_ne (by omega)]
  have AN : addForM I 63 (c : Int) (63 + 6 + n) 0 = (c : Int) := by
    unfold addForM
    rw [a3, Int.toNat_natCast, up_ne (by omega), up_eq]
  have w0 := hW.1
  refine ⟨⟨by rw [A0 0 (by omega), N 0 (by omega) (by omega) (by omega) (by omega)]; exact a1, by rw [A0 2 (by omega), N 2 (by omega) (by omega) (by omega) (by omega)]; exact a2, by rw [A4]; omega, by rw [N1]; omega, by omega, by omega⟩, fun i hi => by rw [A12 _ (by omega), N _ (by omega) (by omega) (by omega) (by omega)]; exact b1 i hi, fun i hi => by rw [A12 _ (by omega), N _ (by omega) (by omega) (by omega) (by omega)]; exact d i hi, fun q hq => ?_, fun q h1 h2 => by omega, fun c9 hc9 => ?_⟩
  · rw [AI, AL]
    by_cases hqn : q = n
    · subst hqn
      have e1 : mSz (up (nmB J q c) 509 (15 + 10 * q) 0) q = 0 := up_eq
      have e2 : mLn (up (nmB J q c) 509 (15 + 10 * q) 0) q = 1 := by
        show up (nmB J q c) 509 (15 + 10 * q) 0 509 (16 + 10 * q) = 1
        unfold nmB
        rw [up_nk (by omega), up_nk (by omega), up_eq]
      rw [if_pos rfl, if_pos rfl, e1, e2]
      refine ⟨rfl, rfl, fun i hi => ?_⟩
      have hi0 : i = 0 := by omega
      subst hi0
      rw [AN]
      show (c : Int) = up (nmB J q c) 509 (15 + 10 * q) 0 509 (17 + 10 * q + 0)
      unfold nmB
      rw [up_nk (by omega), Nat.add_zero, up_eq]
    · obtain ⟨f1, f2, f3⟩ := f q (by omega)
      have e1 : mSz (up (nmB J n c) 509 (15 + 10 * n) 0) q = mSz J q := N _ (by omega) (by omega) (by omega) (by omega)
      have e2 : mLn (up (nmB J n c) 509 (15 + 10 * n) 0) q = mLn J q := N _ (by omega) (by omega) (by omega) (by omega)
      rw [if_neg hqn, if_neg hqn, e1, e2]
      refine ⟨f1, f2, fun i hi => ?_⟩
      rw [AR q i (by omega), f3 i hi]
      show J 509 (17 + 10 * q + i) = up (nmB J n c) 509 (15 + 10 * n) 0 509 (17 + 10 * q + i)
      have w4 := hW.2.2.2.2.1 q (by omega)
      have w9 : i < 8 := by omega
      exact (N _ (by omega) (by omega) (by omega) (by omega)).symm
  · rw [N 0 (by omega) (by omega) (by omega) (by omega)] at hc9 ⊢
    obtain ⟨i, hi, hi2⟩ := k c9 hc9
    exact ⟨i, hi, by rw [N _ (by omega) (by omega) (by omega) (by omega)]; exact hi2⟩
