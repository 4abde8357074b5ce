/-! A COUNT leaves the model's other fields -/
abbrev KF (k : Nat) : Prop := k ≠ 15 ∧ k ≠ 32 ∧ k ≠ 39 ∧ k ≠ 40 ∧ k ≠ 41 ∧ k ≠ 42
theorem tf_8 {r : Nat} {q la su al u2 : Int} {K : II} {x : Nat} (hx : KF x) : ∀ (j p : Nat) (J : II) (u : Int), tfL r q la su al j p J u = some (K, u2) → K 508 x = J 508 x
  | 0, _, J, u, h => by
    have h2 : some (J, u) = some (K, u2) := h
    obtain ⟨rfl, rfl⟩ : J = K ∧ u = u2 := by simpa using h2
    rfl
  | j + 1, p, J, u, h => by
    unfold tfL at h
    split at h
    · exact tf_8 hx j (p + 1) J u h
    · split at h
      · rw [tf_8 hx j (p + 1) _ _ h, go_f hx.2.2.1]
        unfold tfS
        rw [up_ne (by omega)]
      · cases h
theorem xc_8 {r : Nat} {q : Int} {K : II} {x : Nat} (hx : KF x) : ∀ (j p : Nat) (J : II), xcL r q j p J = some K → K 508 x = J 508 x
  | 0, _, J, h => by
    have h2 : some J = some K := h
    obtain rfl : J = K := by simpa using h2
    rfl
  | j + 1, p, J, h => by
    unfold xcL at h
    split at h
    · split at h
      · rw [xc_8 hx j (p + 1) _ h, go_f hx.2.2.1]
      · cases h
    · exact xc_8 hx j (p + 1) J h
theorem em_8 {I : II} {r s q x : Nat} {rs : Int} (hx : KF x) : emM I r s rs q 508 x = I 508 x := by
  unfold emM
  rw [up_ne (by omega), up_nk hx.2.1, up_ne (by omega), up_ne (by omega), up_ne (by omega), up_ne (by omega), up_ne (by omega), lkM_f hx.2.2.2.2.1 hx.2.2.2.2.2]
theorem wq_8 {r : Nat} {qv : Int} {K : II} {x : Nat} (hx : KF x) : ∀ (k : Nat) (J : II), wqL r qv k J = some K → K 508 x = J 508 x
  | 0, _, h => by cases h
  | k + 1, J, h => by
    unfold wqL at h
    split at h
    · split at h
      · rw [wq_8 hx k _ h, em_8 hx]
      · cases h
    · obtain rfl : J = K := by simpa using h
      rfl
theorem wa_8 {r : Nat} {qv : Int} {K : II} {x : Nat} (hx : KF x) : ∀ (k : Nat) (J : II), waL r qv k J = some K → K 508 x = J 508 x
  | 0, _, h => by cases h
  | k + 1, J, h => by
    unfold waL at h
    split at h
    · split at h
      · rw [wa_8 hx k _ h, em_8 hx]
      · cases h
    · obtain rfl : J = K := by simpa using h
      rfl
theorem no_8 {I : II} {r x : Nat} : noM I r 508 x = I 508 x := by
  unfold noM noI
  rw [cpy_ne (by omega), cpy_ne (by omega), cpy_ne (by omega), up_ne (by omega), up_ne (by omega), up_ne (by omega), up_ne (by omega), up_ne (by omega), up_ne (by omega), up_ne (by omega)]
theorem cn_8 {K : II} {x : Nat} (hx : KF x) : ∀ (k r : Nat) (I : II), cnL k r I = some K → K 508 x = I 508 x
  | 0, _, _, h => by cases h
  | k + 1, r, I, h => by
    unfold cnL at h
    obtain ⟨⟨b, L⟩, hR, hT⟩ := Option.bind_eq_some_iff.mp h
    have hL : L 508 x = I 508 x := by
      unfold rdS at hR
      obtain ⟨K1, hQ, hR⟩ := Option.bind_eq_some_iff.mp hR
      have e1 : K1 508 x = I 508 x := by rw [wq_8 hx _ _ hQ, no_8]
      rw [← e1]
      unfold rdT at hR
      split at hR
      · split at hR
        · obtain ⟨L2, hL, h9⟩ := Option.map_eq_some_iff.mp hR
          obtain ⟨-, rfl⟩ : (0 : Int) = b ∧ L2 = L := by simpa using h9
          exact wa_8 hx _ _ hL
        · split at hR
          · split at hR
            · obtain ⟨L2, hL, h9⟩ := Option.map_eq_some_iff.mp hR
              obtain ⟨-, rfl⟩ : (1 : Int) = b ∧ L2 = L := by simpa using h9
              unfold trO tfA at hL
              obtain ⟨⟨K2, u2⟩, hT2, rfl⟩ := Option.map_eq_some_iff.mp hL
              unfold tfE
              rw [hn_e (by omega) (by omega) (by omega), up_nk hx.2.2.2.1, up_ne (by omega), up_ne (by omega)]
              show K2 508 x = K1 508 x
              rw [tf_8 hx _ _ _ _ hT2, lkM_f hx.2.2.2.2.1 hx.2.2.2.2.2]
            · cases hR
          · obtain ⟨L2, hL, h9⟩ := Option.map_eq_some_iff.mp hR
            obtain ⟨-, rfl⟩ : (1 : Int) = b ∧ L2 = L := by simpa using h9
            unfold exO at hL
            split at hL
            · unfold xcB at hL
              obtain ⟨K2, hT2, rfl⟩ := Option.map_eq_some_iff.mp hL
              rw [hn_e (by omega) (by omega) (by omega), xc_8 hx _ _ _ hT2, xcA_e (by omega) (by omega) (by omega) (by omega) (by omega), lkM_f hx.2.2.2.2.1 hx.2.2.2.2.2]
            · cases hL
      · cases hR
    replace hT : (if b = 0 then some (up L 508 15 ((r : Int) + 1)) else cnL k (r + 1) (up L 508 15 ((r : Int) + 1))) = some K := hT
    split at hT
    · obtain rfl : up L 508 15 ((r : Int) + 1) = K := by simpa using hT
      rw [up_nk hx.1, hL]
    · rw [cn_8 hx k (r + 1) _ hT, up_nk hx.1, hL]
theorem pq_x8 {I : II} {x : Nat} (hx : KF x) : ∀ k, foldUp (pqS I) (prI I) k 508 x = I 508 x
  | 0 => by
    show prI I 508 x = I 508 x
    unfold prI
    rw [up_nk hx.2.2.2.1, up_nk hx.2.2.1, up_nk hx.2.1, up_nk hx.1]
  | k + 1 => by
    show pqS I k _ 508 x = I 508 x
    unfold pqS
    rw [up_ne (by omega), up_ne (by omega), up_ne (by omega), up_ne (by omega), up_ne (by omega), up_ne (by omega), up_ne (by omega)]
    exact pq_x8 hx k
theorem pr_x8 {I : II} {x : Nat} (hx : KF x) : ∀ p, foldUp ppS (prA I) p 508 x = I 508 x
  | 0 => by
    rw [fold_0]
    exact pq_x8 hx 8
  | p + 1 => by
    show ppS p _ 508 x = I 508 x
    unfold ppS
    rw [go_f hx.2.2.1, up_ne (by omega)]
    exact pr_x8 hx p
theorem cnO_8 {I K : II} {x : Nat} (a1 : x ≠ 15) (a2 : x ≠ 32) (a3 : x ≠ 39) (a4 : x ≠ 40) (a5 : x ≠ 41) (a6 : x ≠ 42) (h : cnO I = some K) : K 508 x = I 508 x := (cn_8 ⟨a1, a2, a3, a4, a5, a6⟩ _ _ _ h).trans (pr_x8 ⟨a1, a2, a3, a4, a5, a6⟩ _)
