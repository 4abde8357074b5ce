/-! NO VOTES for what is no candidate -/
def NZ (J : II) : Prop := ∀ q : Nat, q < 8 → J 509 0 ≤ (q : Int) → J 525 q = 3 ∧ J 531 q = 0
def NR (J : II) (r : Nat) : Prop := ∀ i q : Nat, i < r → q < 8 → J 509 0 ≤ (q : Int) → J 515 (8 * i + q) = 0
def NZR (J : II) (r : Nat) : Prop := WfM J ∧ NZ J ∧ NR J r
theorem NZR_of {J K : II} {r : Nat} (h : NZR J r) (h9 : K 509 = J 509) (h1 : K 525 = J 525) (h2 : K 531 = J 531) (h3 : K 515 = J 515) : NZR K r := by
  refine ⟨WfM_of h.1 h9, fun q hq hn => ?_, fun i q hi hq hn => ?_⟩
  · rw [h9] at hn
    rw [h1, h2]
    exact h.2.1 q hq hn
  · rw [h9] at hn
    rw [h3]
    exact h.2.2 i q hi hq hn
theorem nz_go {J : II} {p r1 : Nat} {b r : Int} (h : NZR J r1) (hp : p < 25) : NZR (goM J p b r) r1 := by
  obtain ⟨hW, hZ, hR⟩ := h
  have h9 : goM J p b r 509 = J 509 := goM_e (by omega) (by omega) (by omega) (by omega) (by omega)
  have h5 : goM J p b r 525 = J 525 := goM_e (by omega) (by omega) (by omega) (by omega) (by omega)
  have h15 : goM J p b r 515 = J 515 := goM_e (by omega) (by omega) (by omega) (by omega) (by omega)
  refine ⟨WfM_of hW h9, fun q hq hn => ?_, fun i q hi hq hn => ?_⟩
  · rw [h9] at hn
    have h0 := hZ q hq hn
    refine ⟨by rw [h5]; exact h0.1, ?_⟩
    unfold goM
    have w4 := hW.2.2.2.2.1 p hp
    split
    · rename_i hk
      have hl := nxM_le J p ((mLn J p).toNat - (b + 1).toNat) (b + 1).toNat
      have hg : goK J p b = nxM J p ((mLn J p).toNat - (b + 1).toNat) (b + 1).toNat := rfl
      have hs := nx_spec J p ((mLn J p).toNat - (b + 1).toNat) (b + 1).toNat (by rw [← hg]; omega)
      rw [← hg] at hs
      by_cases hq2 : q = (mRk J p (goK J p b)).toNat
      · rw [← hq2] at hs
        omega
      · rw [up_nk hq2, up_ne (by omega), up_ne (by omega), up_ne (by omega)]
        exact h0.2
    · rw [up_ne (by omega), up_ne (by omega), up_ne (by omega), up_ne (by omega)]
      exact h0.2
  · rw [h9] at hn
    rw [h15]
    exact hR i q hi hq hn
theorem lkV_lt {J : II} {r s : Nat} {m : Int} (hW : WfM J) (h : 0 ≤ lkV J r s m) : ((lkV J r s m).toNat : Int) < J 509 0 := by
  have w0 := hW.1
  have hf : ∀ k, k < (J 509 0).toNat → 0 ≤ (fun k => J 509 (7 + k)) k := fun k hk => (hW.2.2.2.2.2.2.1 k (by omega)).1
  rcases lk_in (f := fun k => J 509 (7 + k)) (s := (lkQ J r s m r).1) (m := m) (J 509 0).toNat hf with h1 | ⟨k, hk, h1, h2⟩
  · have h3 : lkV J r s m = -1 := h1
    omega
  · have h3 : lkV J r s m = J 509 (7 + k) := h1
    have h4 := hW.2.2.2.2.2.2.1 k (by omega)
    have h2 : btI (lkQ J r s m r).1 (J 509 (7 + k)).toNat = 1 := h2
    have h5 := (ch_sub (F := mVt J) (n := (J 509 0).toNat) (r := r) (tr := J 509 5) (m := m) (s := s) (by omega) r).2 (J 509 (7 + k)).toNat (by omega) h2
    rw [h3]
    omega
theorem nz_up5 {J : II} {q r1 : Nat} {z : Int} (h : NZR J r1) (hq : (q : Int) < J 509 0) : NZR (up J 525 q z) r1 := by
  refine ⟨WfM_of h.1 (up_ne (by omega)), fun c hc hn => ?_, fun i c hi hc hn => ?_⟩
  · rw [up_ne (by omega)] at hn
    rw [up_nk (by omega), up_ne (by omega)]
    exact h.2.1 c hc hn
  · rw [up_ne (by omega)] at hn
    rw [up_ne (by omega)]
    exact h.2.2 i c hi hc hn
theorem nz_up31 {J : II} {q r1 : Nat} {z : Int} (h : NZR J r1) (hq : (q : Int) < J 509 0) : NZR (up J 531 q z) r1 := by
  refine ⟨WfM_of h.1 (up_ne (by omega)), fun c hc hn => ?_, fun i c hi hc hn => ?_⟩
  · rw [up_ne (by omega)] at hn
    rw [up_ne (by omega), up_nk (by omega)]
    exact h.2.1 c hc hn
  · rw [up_ne (by omega)] at hn
    rw [up_ne (by omega)]
    exact h.2.2 i c hi hc hn
theorem nz_lk {J : II} {r s r1 : Nat} {m : Int} (h : NZR J r1) : NZR (lkM J r s m) r1 := NZR_of h (lkM_ne (by omega)) (lkM_ne (by omega)) (lkM_ne (by omega)) (lkM_ne (by omega))
theorem nz_em {J : II} {r s q r1 : Nat} {rs : Int} (h : NZR J r1) (hq : (q : Int) < J 509 0) : NZR (emM J r s rs q) r1 := by
  have h1 : NZR (up (lkM J r s 1) 525 q 1) r1 := nz_up5 (nz_lk h) (by rw [lkM_ne (by omega)]; exact hq)
  refine NZR_of h1 ?_ ?_ ?_ ?_
  all_goals
    unfold emM
    rw [up_ne (by omega), up_ne (by omega), up_ne (by omega), up_ne (by omega), up_ne (by omega), up_ne (by omega)]
theorem nz_wq {r r1 : Nat} {qv : Int} {K : II} : ∀ (k : Nat) (J : II), wqL r qv k J = some K → NZR J r1 → NZR K r1
  | 0, _, h, _ => by cases h
  | k + 1, J, h, hN => by
    unfold wqL at h
    split at h
    · split at h
      · rename_i hc
        exact nz_wq k _ h (nz_em hN (lkV_lt hN.1 hc.1))
      · cases h
    · obtain rfl : J = K := by simpa using h
      exact hN
theorem nz_wa {r r1 : Nat} {fr : Int} {K : II} : ∀ (k : Nat) (J : II), waL r fr k J = some K → NZR J r1 → NZR K r1
  | 0, _, h, _ => by cases h
  | k + 1, J, h, hN => by
    unfold waL at h
    split at h
    · split at h
      · rename_i hc
        exact nz_wa k _ h (nz_em hN (lkV_lt hN.1 hc.1))
      · cases h
    · obtain rfl : J = K := by simpa using h
      exact hN
theorem nz_tf {r r1 n : Nat} {q la su al u2 : Int} {K : II} (hn : n ≤ 25) : ∀ (j p : Nat) (J : II) (u : Int), p + j = n → tfL r q la su al j p J u = some (K, u2) → NZR J r1 → NZR K r1
  | 0, _, J, u, _, h, hN => by
    have h2 : some (J, u) = some (K, u2) := h
    obtain ⟨rfl, rfl⟩ : J = K ∧ u = u2 := by simpa using h2
    exact hN
  | j + 1, p, J, u, hp, h, hN => by
    unfold tfL at h
    split at h
    · exact nz_tf hn j (p + 1) J u (by omega) h hN
    · split at h
      · refine nz_tf hn j (p + 1) _ _ (by omega) h (nz_go ?_ (by omega))
        unfold tfS
        exact NZR_of hN (up_ne (by omega)) (up_ne (by omega)) (up_ne (by omega)) (up_ne (by omega))
      · cases h
theorem nz_xc {r r1 n : Nat} {q : Int} {K : II} (hn : n ≤ 25) : ∀ (j p : Nat) (J : II), p + j = n → xcL r q j p J = some K → NZR J r1 → NZR K r1
  | 0, _, J, _, h, hN => by
    have h2 : some J = some K := h
    obtain rfl : J = K := by simpa using h2
    exact hN
  | j + 1, p, J, hp, h, hN => by
    unfold xcL at h
    split at h
    · split at h
      · exact nz_xc hn j (p + 1) _ (by omega) h (nz_go hN (by omega))
      · cases h
    · exact nz_xc hn j (p + 1) J (by omega) h hN
theorem nz_no {J : II} {r : Nat} (h : NZR J r) : NZR (noM J r) (r + 1) := by
  have h9 : noM J r 509 = J 509 := no_e (by omega) (by omega) (by omega) (by omega)
  have h5 : noM J r 525 = J 525 := no_e (by omega) (by omega) (by omega) (by omega)
  have h31 : noM J r 531 = J 531 := no_e (by omega) (by omega) (by omega) (by omega)
  refine ⟨WfM_of h.1 h9, fun q hq hn => ?_, fun i q hi hq hn => ?_⟩
  · rw [h9] at hn
    rw [h5, h31]
    exact h.2.1 q hq hn
  · rw [h9] at hn
    by_cases hir : i = r
    · subst hir
      rw [no_vt hq]
      exact (h.2.1 q hq hn).2
    · rw [no_o (by omega) (by omega) (by omega) (by omega)]
      exact h.2.2 i q (by omega) hq hn
theorem nz_hn {J : II} {r r1 : Nat} {a b m : Int} (h : NZR J r1) : NZR (hnM J r a b m) r1 := NZR_of h (hn_e (by omega) (by omega) (by omega)) (hn_e (by omega) (by omega) (by omega)) (hn_e (by omega) (by omega) (by omega)) (hn_e (by omega) (by omega) (by omega))
theorem nz_cn {K : II} : ∀ (k r : Nat) (I : II), r + k ≤ 9 → cnL k r I = some K → NZR I r → ∃ R : Nat, NZR K R ∧ K 508 15 = (R : Int)
  | 0, _, _, _, h, _ => by cases h
  | k + 1, r, I, hr, h, hN => by
    unfold cnL at h
    obtain ⟨⟨b, L⟩, hR, hT⟩ := Option.bind_eq_some_iff.mp h
    have hL : NZR L (r + 1) := by
      unfold rdS at hR
      obtain ⟨K1, hQ, hR⟩ := Option.bind_eq_some_iff.mp hR
      have e1 : NZR K1 (r + 1) := nz_wq _ _ hQ (nz_no hN)
      have w1 := e1.1.2.1
      unfold rdT at hR
      split at hR
      · split at hR
        · obtain ⟨L2, hL, h9⟩ := Option.map_eq_some_iff.mp hR
          obtain ⟨-, rfl⟩ : (0 : Int) = b ∧ L2 = L := by simpa using h9
          exact nz_wa _ _ hL e1
        · split at hR
          · split at hR
            · rename_i hv
              obtain ⟨L2, hL, h9⟩ := Option.map_eq_some_iff.mp hR
              obtain ⟨-, rfl⟩ : (1 : Int) = b ∧ L2 = L := by simpa using h9
              unfold trO tfA at hL
              obtain ⟨⟨K2, u2⟩, hT2, rfl⟩ := Option.map_eq_some_iff.mp hL
              have e2 : NZR K2 (r + 1) := nz_tf (n := (lkM K1 r (wsF K1 r (K1 509 0).toNat) 1 509 1).toNat) (by rw [lkM_ne (by omega)]; omega) _ _ _ _ (by omega) hT2 (nz_lk e1)
              have h9 : K2 509 = K1 509 := by rw [tf_s (by omega) (by omega) (by omega) (by omega) (by omega) (by omega) _ _ _ _ hT2, lkM_ne (by omega)]
              unfold tfE
              refine nz_hn (NZR_of (nz_up31 (q := (lkV K1 r (wsF K1 r (K1 509 0).toNat) 1).toNat) (z := K2 516 r) e2 (by rw [h9]; exact lkV_lt e1.1 hv)) ?_ ?_ ?_ ?_)
              all_goals rw [up_ne (by omega), up_ne (by omega)]
            · cases hR
          · obtain ⟨L2, hL, h9⟩ := Option.map_eq_some_iff.mp hR
            obtain ⟨-, rfl⟩ : (1 : Int) = b ∧ L2 = L := by simpa using h9
            unfold exO at hL
            split at hL
            · rename_i hv
              unfold xcB at hL
              obtain ⟨K2, hT2, rfl⟩ := Option.map_eq_some_iff.mp hL
              refine nz_hn (nz_xc (n := (lkM K1 r (hpF K1 0 (K1 509 0).toNat) 0 509 1).toNat) (by rw [lkM_ne (by omega)]; omega) _ _ _ (by omega) hT2 ?_)
              have e2 : NZR (lkM K1 r (hpF K1 0 (K1 509 0).toNat) 0) (r + 1) := nz_lk e1
              have hv2 := lkV_lt e1.1 hv
              have e3 := nz_up5 (q := (lkV K1 r (hpF K1 0 (K1 509 0).toNat) 0).toNat) (z := 2) e2 (by rw [lkM_ne (by omega)]; exact hv2)
              unfold xcA
              refine nz_up31 (NZR_of e3 ?_ ?_ ?_ ?_) ?_
              · rw [up_ne (by omega), up_ne (by omega), up_ne (by omega)]
              · rw [up_ne (by omega), up_ne (by omega), up_ne (by omega)]
              · rw [up_ne (by omega), up_ne (by omega), up_ne (by omega)]
              · rw [up_ne (by omega), up_ne (by omega), up_ne (by omega)]
              · rw [up_ne (by omega), up_ne (by omega), up_ne (by omega), up_ne (by omega), lkM_ne (by omega)]
                exact hv2
            · cases hL
      · cases hR
    have hL2 : NZR (up L 508 15 ((r : Int) + 1)) (r + 1) := NZR_of hL (up_ne (by omega)) (up_ne (by omega)) (up_ne (by omega)) (up_ne (by omega))
    replace hT : (if b = 0 then some (up L 508 15 ((r : Int) + 1)) else cnL k (r + 1) (up L 508 15 ((r : Int) + 1))) = some K := hT
    split at hT
    · obtain rfl : up L 508 15 ((r : Int) + 1) = K := by simpa using hT
      exact ⟨r + 1, hL2, by rw [up_eq]; omega⟩
    · exact nz_cn k (r + 1) _ (by omega) hT hL2
theorem nz_pr {I : II} (hW : WfM I) : NZR (prM I) 0 := by
  have h0 : NZR (prA I) 0 := by
    have h9 : prA I 509 = I 509 := pq_s 8
    refine ⟨WfM_of hW h9, fun q hq hn => ?_, fun i q hi => by omega⟩
    rw [h9] at hn
    have h1 := pq_v (J := I) 8 q hq
    refine ⟨h1.1.trans ?_, h1.2.2.2.2.2.1⟩
    unfold psF
    rw [if_pos (Or.inl hn)]
  have L : ∀ p, p ≤ 25 → NZR (foldUp ppS (prA I) p) 0 := by
    intro p
    induction p with
    | zero => intro _; rw [fold_0]; exact h0
    | succ p ih =>
      intro hp
      show NZR (goM (up (foldUp ppS (prA I) p) 535 p 10000) p (-1) (-1)) 0
      exact nz_go (NZR_of (ih (by omega)) (up_ne (by omega)) (up_ne (by omega)) (up_ne (by omega)) (up_ne (by omega))) (by omega)
  have w1 := hW.2.1
  exact L _ (by omega)
theorem nz_cnO {I K : II} (hW : WfM I) (h : cnO I = some K) : ∃ R : Nat, NZR K R ∧ K 508 15 = (R : Int) := nz_cn 9 0 _ (by omega) h (nz_pr hW)
