/-! SIMULATION: commands -/
theorem fold_ne {a r : Nat} {X : II} (ha : a ≠ r) : ∀ m : Nat, foldUp (fun k J => up J r k (J a k)) X m a = X a
  | 0 => by rw [fold_0]
  | m + 1 => by
    have ih := fold_ne (X := X) ha m
    rw [fold_s]
    show up _ r m _ a = _
    rw [up_ne ha]; exact ih
theorem fold_nx {a r x : Nat} {X : II} (hx : x ≠ r) : ∀ m : Nat, foldUp (fun k J => up J r k (J a k)) X m x = X x
  | 0 => by rw [fold_0]
  | m + 1 => by
    have ih := fold_nx (X := X) (a := a) hx m
    rw [fold_s]
    show up _ r m _ x = _
    rw [up_ne hx]; exact ih
theorem fold_row {e a p : Nat} {X : II} (ha : a ≠ e + 6 + p) : ∀ m k : Nat, foldUp (fun k J => up J (e + 6 + p) k (J a k)) X m (e + 6 + p) k = if k < m then X a k else X (e + 6 + p) k
  | 0, k => by
    rw [fold_0, if_neg (by omega)]
  | m + 1, k => by
    have ih := fold_row (X := X) ha m k
    have iha : foldUp (fun k J => up J (e + 6 + p) k (J a k)) X m a = X a := fold_ne ha m
    rw [fold_s]
    show up _ (e + 6 + p) m _ (e + 6 + p) k = _
    by_cases g : k = m
    · rw [g, up_eq, iha, if_pos (by omega)]
    · rw [up_nk g, ih]
      by_cases g2 : k < m
      · rw [if_pos g2, if_pos (by omega)]
      · rw [if_neg g2, if_neg (by omega)]
theorem rankM_v {X : II} {e p a m k : Nat} (ha : e + 31 ≤ a) (hp : p < 25) : rankM X e p a m (e + 6 + p) k = if k < m then X a k else X (e + 6 + p) k := by
  unfold rankM
  rw [fold_row (by omega), up_ne (by omega), up_ne (by omega)]
theorem rankM_l {X : II} {e p a m q : Nat} (hp : p < 25) : rankM X e p a m (e + 4) q = if q = p then (m : Int) else X (e + 4) q := by
  unfold rankM
  rw [fold_nx (by omega)]
  by_cases g : q = p
  · rw [g, up_eq, if_pos rfl]
  · rw [up_nk g, if_neg g]
theorem drawM_v {X : II} {e a n k : Nat} (ha : a ≠ e + 2) : drawM X e a n (e + 2) k = if k < n then X a k else X (e + 2) k := by
  have h : ∀ m, foldUp (fun k J => up J (e + 2) k (J a k)) X m a = X a ∧ ∀ k, foldUp (fun k J => up J (e + 2) k (J a k)) X m (e + 2) k = if k < m then X a k else X (e + 2) k := by
    intro m
    induction m with
    | zero => rw [fold_0]; exact ⟨rfl, fun k => by rw [if_neg (by omega)]⟩
    | succ m ih =>
      rw [fold_s]
      refine ⟨?_, fun k => ?_⟩
      · show up _ (e + 2) m _ a = _
        rw [up_ne ha]; exact ih.1
      · show up _ (e + 2) m _ (e + 2) k = _
        by_cases g : k = m
        · rw [g, up_eq, ih.1, if_pos (by omega)]
        · rw [up_nk g, ih.2]
          by_cases g2 : k < m
          · rw [if_pos g2, if_pos (by omega)]
          · rw [if_neg g2, if_neg (by omega)]
  exact (h n).2 k
theorem sr_v {X : II} {p j : Nat} : srM X p 509 j = if 17 + 10 * p ≤ j ∧ j < 17 + 10 * p + (X 508 13).toNat then X 514 (j - (17 + 10 * p)) else if j = 16 + 10 * p then X 508 13 else X 509 j := by
  unfold srM
  rw [cpy_at]
  dsimp only
  by_cases g : 17 + 10 * p ≤ j ∧ j < 17 + 10 * p + (X 508 13).toNat
  · rw [if_pos g, if_pos g, up_ne (by decide), Nat.zero_add]
  · rw [if_neg g, if_neg g]
    by_cases g2 : j = 16 + 10 * p
    · rw [g2, up_eq, if_pos rfl]
    · rw [up_nk g2, if_neg g2]
theorem EL_size {I J : II} {e n p : Nat} {y : Int} (hM : WfM J) (h : EL I e J n n) (hp : p < n) : EL (up I (e + 3) p y) e (up J 509 (15 + 10 * p) y) n n := by
  obtain ⟨⟨a1, a2, a3, a4, a5, a6⟩, b, d, f, g, k⟩ := h
  have hL := fun q (hq : q < 25) => (hM.2.2.2.2.1 q hq).2
  have h0 := hM.1.2
  have m : ∀ j, j ≠ 15 + 10 * p → up J 509 (15 + 10 * p) y 509 j = J 509 j := fun j hj => up_nk hj
  refine ⟨⟨?_, ?_, ?_, ?_, a5, a6⟩, fun k hk => ?_, fun k hk => ?_, fun q hq => ⟨?_, ?_, fun k hk => ?_⟩, fun q h1 h2 => by omega, fun c hc => ?_⟩
  · rw [up_ne (by omega), m 0 (by omega)]; exact a1
  · rw [up_ne (by omega), m 2 (by omega)]; exact a2
  · rw [up_ne (by omega)]; exact a3
  · rw [m 1 (by omega)]; exact a4
  · rw [up_ne (by omega), m _ (by omega)]; exact b k hk
  · rw [up_ne (by omega), m _ (by omega)]; exact d k hk
  · unfold mSz
    by_cases e1 : q = p
    · rw [e1, up_eq, up_eq]
    · rw [up_nk e1, m _ (by omega)]; exact (f q hq).1
  · unfold mLn
    rw [up_ne (by omega), m _ (by omega)]; exact (f q hq).2.1
  · have h8 := hL q (by omega)
    unfold mLn at hk h8
    rw [m _ (by omega)] at hk
    unfold mRk
    rw [up_ne (by omega), m _ (by omega)]; exact (f q hq).2.2 k hk
  · rw [m 0 (by omega)] at hc ⊢
    obtain ⟨k9, k1, k2⟩ := k c hc
    exact ⟨k9, k1, by rw [m _ (by omega)]; exact k2⟩
theorem EL_rank {I J : II} {e n p a m : Nat} (hM : WfM J) (h : EL I e J n n) (hp : p < n) (ha : e + 31 ≤ a) (hm : J 508 13 = (m : Int)) (hm8 : m ≤ 8) (hr : ∀ k, k < m → I a k = J 514 k) : EL (rankM I e p a m) e (srM J p) n n := by
  obtain ⟨⟨a1, a2, a3, a4, a5, a6⟩, b, d, f, g, k⟩ := h
  have hL := fun q (hq : q < 25) => (hM.2.2.2.2.1 q hq).2
  have h0 := hM.1.2
  have m8 : (J 508 13).toNat = m := by omega
  have s : ∀ j, (j < 16 + 10 * p ∨ 25 + 10 * p ≤ j) → srM J p 509 j = J 509 j := fun j hj => by rw [sr_v, m8, if_neg (by omega), if_neg (by omega)]
  have r : ∀ x, x ≠ e + 4 → x ≠ e + 6 + p → rankM I e p a m x = I x := fun x h1 h2 => rankM_e h1 h2
  refine ⟨⟨?_, ?_, ?_, ?_, a5, a6⟩, fun k hk => ?_, fun k hk => ?_, fun q hq => ⟨?_, ?_, fun k hk => ?_⟩, fun q h1 h2 => by omega, fun c hc => ?_⟩
  · rw [r _ (by omega) (by omega), s 0 (by omega)]; exact a1
  · rw [r _ (by omega) (by omega), s 2 (by omega)]; exact a2
  · rw [r _ (by omega) (by omega)]; exact a3
  · rw [s 1 (by omega)]; exact a4
  · rw [r _ (by omega) (by omega), s _ (by omega)]; exact b k hk
  · rw [r _ (by omega) (by omega), s _ (by omega)]; exact d k hk
  · unfold mSz
    rw [r _ (by omega) (by omega), s _ (by omega)]; exact (f q hq).1
  · unfold mLn
    rw [rankM_l (by omega)]
    by_cases e1 : q = p
    · subst e1
      rw [if_pos rfl, sr_v, m8, if_neg (by omega), if_pos rfl, hm]
    · rw [if_neg e1, s _ (by omega)]; exact (f q hq).2.1
  · have h8 := hL q (by omega)
    unfold mLn at hk h8
    unfold mRk
    by_cases e1 : q = p
    · subst e1
      rw [sr_v, m8, if_neg (by omega), if_pos rfl, hm] at hk
      rw [rankM_v ha (by omega), if_pos (by omega), sr_v, m8, if_pos (by omega), show 17 + 10 * q + k - (17 + 10 * q) = k by omega]
      exact hr k (by omega)
    · rw [s _ (by omega)] at hk
      rw [r _ (by omega) (by omega), s _ (by omega)]; exact (f q hq).2.2 k hk
  · rw [s 0 (by omega)] at hc ⊢
    obtain ⟨k9, k1, k2⟩ := k c hc
    exact ⟨k9, k1, by rw [s _ (by omega)]; exact k2⟩
theorem rpE_v {K : II} {z : Int} {n j : Nat} (hn : K 509 1 = (n : Int)) : rpE K z 509 j = if j = 1 then (n : Int) + 1 else if 17 + 10 * n ≤ j ∧ j < 17 + 10 * n + (K 508 13).toNat then K 514 (j - (17 + 10 * n)) else if j = 16 + 10 * n then K 508 13 else if j = 15 + 10 * n then z else K 509 j := by
  have e1 : (K 509 1).toNat = n := by omega
  unfold rpE
  rw [e1, hn]
  by_cases g : j = 1
  · rw [if_pos g, g, up_eq]
  · rw [if_neg g, up_nk g, sr_v, up_ne (show (508 : Nat) ≠ 509 by decide), up_ne (show (514 : Nat) ≠ 509 by decide)]
    by_cases g2 : j = 15 + 10 * n
    · rw [g2, up_eq, if_pos rfl]
    · rw [up_nk g2, if_neg g2]
theorem EL_add {I K : II} {e n a m : Nat} {z : Int} (hM : WfM K) (h : EL I e K n n) (hn : n ≤ 24) (ha : e + 31 ≤ a) (hm : K 508 13 = (m : Int)) (hm8 : m ≤ 8) (hr : ∀ k, k < m → I a k = K 514 k) : EL (addM I e a m z) e (rpE K z) (n + 1) (n + 1) := by
  obtain ⟨⟨a1, a2, a3, a4, a5, a6⟩, b, d, f, g, k⟩ := h
  have hL := fun q (hq : q < 25) => (hM.2.2.2.2.1 q hq).2
  have h0 := hM.1.2
  have m8 : (K 508 13).toNat = m := by omega
  have n8 : (I e 4).toNat = n := by omega
  have s : ∀ j, j ≠ 1 → (j < 15 + 10 * n ∨ 25 + 10 * n ≤ j) → rpE K z 509 j = K 509 j := fun j h1 hj => by rw [rpE_v a4, m8, if_neg h1, if_neg (by omega), if_neg (by omega), if_neg (by omega)]
  have r : ∀ x, x ≠ e → x ≠ e + 3 → x ≠ e + 4 → x ≠ e + 6 + n → addM I e a m z x = I x := fun x h1 h2 h3 h4 => addM_e h1 h2 h3 (by omega)
  have r0 : ∀ j, addM I e a m z e j = if j = 4 then (n : Int) + 1 else I e j := fun j => by
    unfold addM
    rw [n8, rankM_e (by omega) (by omega), up_ne (by omega)]
    by_cases g : j = 4
    · rw [g, up_eq, if_pos rfl, a3]
    · rw [up_nk g, if_neg g]
  have r3 : ∀ q, addM I e a m z (e + 3) q = if q = n then z else I (e + 3) q := fun q => by
    unfold addM
    rw [n8, rankM_e (by omega) (by omega)]
    by_cases g : q = n
    · rw [g, up_eq, if_pos rfl]
    · rw [up_nk g, if_neg g, up_ne (by omega)]
  have r4 : ∀ q, addM I e a m z (e + 4) q = if q = n then (m : Int) else I (e + 4) q := fun q => by
    unfold addM
    rw [n8, rankM_l (by omega), up_ne (by omega), up_ne (by omega)]
  have r6 : ∀ k, k < m → addM I e a m z (e + 6 + n) k = K 514 k := fun k hk => by
    unfold addM
    rw [n8, rankM_v ha (by omega), if_pos hk, up_ne (by omega), up_ne (by omega)]
    exact hr k hk
  refine ⟨⟨?_, ?_, ?_, ?_, Nat.le_refl _, by omega⟩, fun k hk => ?_, fun k hk => ?_, fun q hq => ⟨?_, ?_, fun k hk => ?_⟩, fun q h1 h2 => by omega, fun c hc => ?_⟩
  · rw [r0, if_neg (by omega), s 0 (by omega) (by omega)]; exact a1
  · rw [r0, if_neg (by omega), s 2 (by omega) (by omega)]; exact a2
  · rw [r0, if_pos rfl, Int.natCast_add]; rfl
  · rw [rpE_v a4, if_pos rfl, Int.natCast_add]; rfl
  · rw [r _ (by omega) (by omega) (by omega) (by omega), s _ (by omega) (by omega)]; exact b k hk
  · rw [r _ (by omega) (by omega) (by omega) (by omega), s _ (by omega) (by omega)]; exact d k hk
  · unfold mSz
    rw [r3]
    by_cases e1 : q = n
    · subst e1
      rw [if_pos rfl, rpE_v a4, m8, if_neg (by omega), if_neg (by omega), if_neg (by omega), if_pos rfl]
    · rw [if_neg e1, s _ (by omega) (by omega)]; exact (f q (by omega)).1
  · unfold mLn
    rw [r4]
    by_cases e1 : q = n
    · subst e1
      rw [if_pos rfl, rpE_v a4, m8, if_neg (by omega), if_neg (by omega), if_pos rfl, hm]
    · rw [if_neg e1, s _ (by omega) (by omega)]; exact (f q (by omega)).2.1
  · have h8 := hL q (by omega)
    unfold mLn at hk h8
    unfold mRk
    by_cases e1 : q = n
    · subst e1
      rw [rpE_v a4, m8, if_neg (by omega), if_neg (by omega), if_pos rfl, hm] at hk
      rw [r6 _ (by omega), rpE_v a4, m8, if_neg (by omega), if_pos (by omega), show 17 + 10 * q + k - (17 + 10 * q) = k by omega]
    · rw [s _ (by omega) (by omega)] at hk
      rw [r _ (by omega) (by omega) (by omega) (by omega), s _ (by omega) (by omega)]; exact (f q (by omega)).2.2 k hk
  · rw [s 0 (by omega) (by omega)] at hc ⊢
    obtain ⟨k9, k1, k2⟩ := k c hc
    exact ⟨k9, k1, by rw [s _ (by omega) (by omega)]; exact k2⟩
theorem EL_lot {I J : II} {e n a nc : Nat} (hM : WfM J) (h : EL I e J n n) (ha : a ≠ e + 2) (hn : J 509 0 = (nc : Int)) (hr : ∀ k, k < nc → I a k = J 514 k) (hc9 : ∀ c : Nat, (c : Int) < nc → ∃ i : Nat, (i : Int) < nc ∧ J 514 i = (c : Int)) : EL (drawM I e a nc) e (cpy J 514 509 0 7 nc) n n := by
  obtain ⟨⟨a1, a2, a3, a4, a5, a6⟩, b, d, f, g, k⟩ := h
  have h0 := hM.1.2
  have s : ∀ j, (j < 7 ∨ 15 ≤ j) → cpy J 514 509 0 7 nc 509 j = J 509 j := fun j hj => by
    rw [cpy_at]
    exact if_neg (by omega)
  have s2 : ∀ k, k < nc → cpy J 514 509 0 7 nc 509 (7 + k) = J 514 k := fun k hk => by
    rw [cpy_at]
    dsimp only
    rw [if_pos (by omega), show 0 + (7 + k - 7) = k by omega]
  have s3 : ∀ k, ¬ k < nc → cpy J 514 509 0 7 nc 509 (7 + k) = J 509 (7 + k) := fun k hk => by
    rw [cpy_at]
    exact if_neg (by omega)
  have r : ∀ x, x ≠ e + 2 → drawM I e a nc x = I x := fun x h1 => drawM_e h1
  refine ⟨⟨?_, ?_, ?_, ?_, a5, a6⟩, fun k hk => ?_, fun k hk => ?_, fun q hq => ⟨?_, ?_, fun k hk => ?_⟩, fun q h1 h2 => by omega, fun c hc => ?_⟩
  · rw [r _ (by omega), s 0 (by omega)]; exact a1
  · rw [r _ (by omega), s 2 (by omega)]; exact a2
  · rw [r _ (by omega)]; exact a3
  · rw [s 1 (by omega)]; exact a4
  · rw [drawM_v ha]
    by_cases g2 : k < nc
    · rw [if_pos g2, s2 k g2]; exact hr k g2
    · rw [if_neg g2, s3 k g2]; exact b k hk
  · rw [r _ (by omega), s _ (by omega)]; exact d k hk
  · unfold mSz
    rw [r _ (by omega), s _ (by omega)]; exact (f q hq).1
  · unfold mLn
    rw [r _ (by omega), s _ (by omega)]; exact (f q hq).2.1
  · unfold mLn at hk
    unfold mRk
    rw [s _ (by omega)] at hk
    rw [r _ (by omega), s _ (by omega)]; exact (f q hq).2.2 k hk
  · rw [s 0 (by omega)] at hc ⊢
    obtain ⟨i, i1, i2⟩ := hc9 c (by omega)
    exact ⟨i, by omega, by rw [s2 i (by omega)]; exact i2⟩
