/-! SIMULATION: a round -/
theorem dv_b {a b : Int} (ha : 0 ≤ a ∧ a < 2147483648) (hb : 1 ≤ b ∧ b ≤ 100) : 0 ≤ dvI a b ∧ dvI a b ≤ a := by
  have hne : ii b ≠ -1 := fun h => by
    have h2 := congrArg Int32.toInt h
    rw [ii_toInt (by omega)] at h2
    have h3 : (-1 : Int32).toInt = -1 := by decide
    omega
  have e : dvI a b = a.tdiv b := by
    unfold dvI
    rw [Int32.toInt_div_of_ne_right _ _ hne, ii_toInt (by omega), ii_toInt (by omega)]
  rw [e, Int.tdiv_eq_ediv_of_nonneg ha.1]
  exact ⟨Int.ediv_nonneg ha.1 (by omega), Int.ediv_le_self _ ha.1⟩
/-- papers, as the class keeps their number -/
def PP (c : Nat) (I J : II) : Prop := I c 12 = mPs J
theorem qf_eq {c e nC nM w r1 : Nat} {I J : II} (h : RR9 c e nC nM w r1 I J) (hp : PP c I J) : quotaF I c e = qmF J ∧ 0 ≤ qmF J ∧ qmF J ≤ 30000000 := by
  obtain ⟨a1, a2, a3, a4, a5, a6, a7, a8, a9, a10⟩ := h
  have f0 := a1.2.2.1 0 (by omega)
  have f3 := a1.2.2.1 3 (by omega)
  rw [show 3 + 0 = 3 from rfl] at f0
  rw [show 3 + 3 = 6 from rfl] at f3
  have hmp := mps_b a5
  have w6 := a5.1.2.2.2.2.2.2.2.2.2.2
  obtain ⟨v1, v2, v3, v4, v5⟩ := a6
  have hge := sumTo_nn (f := J 531) 8 (fun i hi => (v3 i hi).2.2.2)
  have htot : tot J = sumTo (J 531) 8 + J 508 39 + J 508 40 := rfl
  have e14 : I c 14 = J 508 39 := a2 _ _ _ _ pr_ex
  have e15 : I c 15 = J 508 40 := a2 _ _ _ _ pr_lo
  unfold PP at hp
  refine ⟨?_, ?_⟩
  · unfold quotaF qmF
    rw [f0, f3, hp, e14, e15]
  · have d1 := dv_b (a := mPs J) (b := J 509 6 + 1) (by omega) (by omega)
    have d2 := dv_b (a := mPs J + J 509 6 - 1) (b := J 509 6) (by omega) (by omega)
    have d3 := dv_b (a := mPs J * 10000) (b := J 509 6 + 1) (by omega) (by omega)
    have d4 := dv_b (a := mPs J * 10000 - J 508 39 - J 508 40) (b := J 509 6 + 1) (by omega) (by omega)
    unfold qmF
    split
    · omega
    · split
      · omega
      · split <;> omega
theorem cpy_v {I : II} {a0 a sp dp n j : Nat} (h : dp ≤ j ∧ j < dp + n) : cpy I a0 a sp dp n a j = I a0 (sp + (j - dp)) := by rw [cpy_at]; exact if_pos h
theorem cpy_o {I : II} {a0 a sp dp n j : Nat} (h : ¬ (dp ≤ j ∧ j < dp + n)) : cpy I a0 a sp dp n a j = I a j := by rw [cpy_at]; exact if_neg h
/-- a round's beginning, the class's cells -/
theorem rb_o {I : II} {c e r a k : Nat} (hr : r < 9) (h1 : ¬ (a = c + 1 ∧ k = 0)) (h2 : ¬ (a = c ∧ k = 13)) (h3 : ¬ (c + 20 ≤ a ∧ a ≤ c + 26 ∧ k = r)) (h4 : a ≠ c + 5 + r) (h5 : a ≠ c + 28 + r) (h6 : a ≠ c + 38 + r) : rbM I c e r a k = I a k := by
  unfold rbM logM lgI
  rw [cpy_ne (show a ≠ c + 19 + 19 + r by omega), cpy_ne (show a ≠ c + 19 + 9 + r by omega), cpy_ne (show a ≠ c + 1 + 4 + r by omega)]
  rw [up_o (fun g => h3 (by omega)), up_o (fun g => h3 (by omega)), up_o (fun g => h3 (by omega)), up_o (fun g => h3 (by omega)), up_o (fun g => h3 (by omega)), up_o (fun g => h3 (by omega)), up_o (fun g => h3 (by omega)), up_o h2, up_o h1]
theorem no_o {J : II} {r b j : Nat} (h1 : ¬ (516 ≤ b ∧ b ≤ 522 ∧ j = r)) (h2 : ¬ (b = 515 ∧ 8 * r ≤ j ∧ j < 8 * r + 8)) (h3 : ¬ (b = 523 ∧ 25 * r ≤ j ∧ j < 25 * r + 25)) (h4 : ¬ (b = 524 ∧ 25 * r ≤ j ∧ j < 25 * r + 25)) : noM J r b j = J b j := by
  unfold noM noI
  have e1 : ∀ (X : II), cpy X 535 524 0 (25 * r) 25 b j = X b j := fun X => by
    by_cases g : b = 524
    · subst g; exact cpy_o (fun k => h4 ⟨rfl, k.1, k.2⟩)
    · rw [cpy_ne g]
  have e2 : ∀ (X : II), cpy X 533 523 0 (25 * r) 25 b j = X b j := fun X => by
    by_cases g : b = 523
    · subst g; exact cpy_o (fun k => h3 ⟨rfl, k.1, k.2⟩)
    · rw [cpy_ne g]
  have e3 : ∀ (X : II), cpy X 531 515 0 (8 * r) 8 b j = X b j := fun X => by
    by_cases g : b = 515
    · subst g; exact cpy_o (fun k => h2 ⟨rfl, k.1, k.2⟩)
    · rw [cpy_ne g]
  rw [e1, e2, e3]
  rw [up_o (fun g => h1 (by omega)), up_o (fun g => h1 (by omega)), up_o (fun g => h1 (by omega)), up_o (fun g => h1 (by omega)), up_o (fun g => h1 (by omega)), up_o (fun g => h1 (by omega)), up_o (fun g => h1 (by omega))]
theorem no_vt {J : II} {r k : Nat} (hk : k < 8) : noM J r 515 (8 * r + k) = J 531 k := by
  unfold noM
  rw [cpy_ne (by decide), cpy_ne (by decide), cpy_v (by omega), show 0 + (8 * r + k - 8 * r) = k by omega]
  unfold noI
  rw [up_ne (by decide), up_ne (by decide), up_ne (by decide), up_ne (by decide), up_ne (by decide), up_ne (by decide), up_ne (by decide)]
theorem no_ho {J : II} {r k : Nat} (hk : k < 25) : noM J r 523 (25 * r + k) = J 533 k := by
  unfold noM
  rw [cpy_ne (by decide), cpy_v (by omega), show 0 + (25 * r + k - 25 * r) = k by omega, cpy_ne (by decide)]
  unfold noI
  rw [up_ne (by decide), up_ne (by decide), up_ne (by decide), up_ne (by decide), up_ne (by decide), up_ne (by decide), up_ne (by decide)]
theorem no_wo {J : II} {r k : Nat} (hk : k < 25) : noM J r 524 (25 * r + k) = J 535 k := by
  unfold noM
  rw [cpy_v (by omega), show 0 + (25 * r + k - 25 * r) = k by omega, cpy_ne (by decide), cpy_ne (by decide)]
  unfold noI
  rw [up_ne (by decide), up_ne (by decide), up_ne (by decide), up_ne (by decide), up_ne (by decide), up_ne (by decide), up_ne (by decide)]
theorem rb_vt {I : II} {c e r k : Nat} (hr : r < 9) (hk : k < 8) : rbM I c e r (c + 5 + r) k = I (c + 47) k := by
  unfold rbM logM
  rw [cpy_ne (show c + 5 + r ≠ c + 19 + 19 + r by omega), cpy_ne (show c + 5 + r ≠ c + 19 + 9 + r by omega), show c + 5 + r = c + 1 + 4 + r by omega, cpy_v (by omega), show 0 + (k - 0) = k by omega]
  unfold lgI
  rw [up_ne (by omega), up_ne (by omega), up_ne (by omega), up_ne (by omega), up_ne (by omega), up_ne (by omega), up_ne (by omega), up_ne (by omega), up_ne (by omega)]
theorem rb_ho {I : II} {c e r k : Nat} (hr : r < 9) (hk : k < 25) : rbM I c e r (c + 28 + r) k = I (c + 48) k := by
  unfold rbM logM
  rw [cpy_ne (show c + 28 + r ≠ c + 19 + 19 + r by omega), show c + 28 + r = c + 19 + 9 + r by omega, cpy_v (by omega), show 0 + (k - 0) = k by omega, cpy_ne (by omega)]
  unfold lgI
  rw [up_ne (by omega), up_ne (by omega), up_ne (by omega), up_ne (by omega), up_ne (by omega), up_ne (by omega), up_ne (by omega), up_ne (by omega), up_ne (by omega)]
theorem rb_wo {I : II} {c e r k : Nat} (hr : r < 9) (hk : k < 25) : rbM I c e r (c + 38 + r) k = I (c + 51) k := by
  unfold rbM logM
  rw [show c + 38 + r = c + 19 + 19 + r by omega, cpy_v (by omega), show 0 + (k - 0) = k by omega, cpy_ne (by omega), cpy_ne (by omega)]
  unfold lgI
  rw [up_ne (by omega), up_ne (by omega), up_ne (by omega), up_ne (by omega), up_ne (by omega), up_ne (by omega), up_ne (by omega), up_ne (by omega), up_ne (by omega)]
def rbQ (I : II) (c e r : Nat) : Int := wr (quotaF (up I (c + 1) 0 ((r : Int) + 1)) c e)
theorem rb_lg {I : II} {c e r : Nat} (hr : r < 9) : rbM I c e r (c + 20) r = rbQ I c e r ∧ rbM I c e r (c + 21) r = I c 14 ∧ rbM I c e r (c + 22) r = I c 15 ∧ rbM I c e r (c + 23) r = 0 ∧ rbM I c e r (c + 24) r = -1 ∧ rbM I c e r (c + 25) r = 0 ∧ rbM I c e r (c + 26) r = 0 ∧ rbM I c e r c 13 = rbQ I c e r := by
  have e : ∀ a, c + 20 ≤ a → a ≤ c + 26 → rbM I c e r a = lgI (up (up I (c + 1) 0 ((r : Int) + 1)) c 13 (rbQ I c e r)) c r a := fun a h1 h2 => by
    unfold rbM logM rbQ
    rw [cpy_ne (by omega), cpy_ne (by omega), cpy_ne (by omega)]
  refine ⟨?_, ?_, ?_, ?_, ?_, ?_, ?_, ?_⟩
  · rw [e _ (by omega) (by omega)]
    unfold lgI
    rw [up_ne (by omega), up_ne (by omega), up_ne (by omega), up_ne (by omega), up_ne (by omega), up_ne (by omega)]
    exact up_eq.trans up_eq
  · rw [e _ (by omega) (by omega)]
    unfold lgI
    rw [up_ne (by omega), up_ne (by omega), up_ne (by omega), up_ne (by omega), up_ne (by omega)]
    exact up_eq.trans (by rw [up_nk (by decide), up_ne (by omega)])
  · rw [e _ (by omega) (by omega)]
    unfold lgI
    rw [up_ne (by omega), up_ne (by omega), up_ne (by omega), up_ne (by omega)]
    exact up_eq.trans (by rw [up_nk (by decide), up_ne (by omega)])
  · rw [e _ (by omega) (by omega)]
    unfold lgI
    rw [up_ne (by omega), up_ne (by omega), up_ne (by omega)]
    exact up_eq
  · rw [e _ (by omega) (by omega)]
    unfold lgI
    rw [up_ne (by omega), up_ne (by omega)]
    exact up_eq
  · rw [e _ (by omega) (by omega)]
    unfold lgI
    rw [up_ne (by omega)]
    exact up_eq
  · rw [e _ (by omega) (by omega)]
    unfold lgI
    exact up_eq
  · unfold rbM logM lgI rbQ
    rw [cpy_ne (by omega), cpy_ne (by omega), cpy_ne (by omega), up_ne (by omega), up_ne (by omega), up_ne (by omega), up_ne (by omega), up_ne (by omega), up_ne (by omega), up_ne (by omega), up_eq]
theorem no_lg {J : II} {r : Nat} : noM J r 516 r = wr (qmF J) ∧ noM J r 517 r = J 508 39 ∧ noM J r 518 r = J 508 40 ∧ noM J r 519 r = 0 ∧ noM J r 520 r = -1 ∧ noM J r 521 r = 0 ∧ noM J r 522 r = 0 := by
  have e : ∀ b, 516 ≤ b → b ≤ 522 → noM J r b = noI J r b := fun b h1 h2 => by
    unfold noM
    rw [cpy_ne (by omega), cpy_ne (by omega), cpy_ne (by omega)]
  refine ⟨?_, ?_, ?_, ?_, ?_, ?_, ?_⟩ <;> rw [e _ (by omega) (by omega)] <;> unfold noI
  · rw [up_ne (by decide), up_ne (by decide), up_ne (by decide), up_ne (by decide), up_ne (by decide), up_ne (by decide), up_eq]
  · rw [up_ne (by decide), up_ne (by decide), up_ne (by decide), up_ne (by decide), up_ne (by decide), up_eq]
  · rw [up_ne (by decide), up_ne (by decide), up_ne (by decide), up_ne (by decide), up_eq]
  · rw [up_ne (by decide), up_ne (by decide), up_ne (by decide), up_eq]
  · rw [up_ne (by decide), up_ne (by decide), up_eq]
  · rw [up_ne (by decide), up_eq]
  · rw [up_eq]
theorem rb_sim {c e nC nM w r : Nat} {I J : II} (h : RR9 c e nC nM w r I J) (hp : PP c I J) (hsp : e + 31 ≤ c) (hr : r < 9) (h15 : J 508 15 = (r : Int)) : RR9 c e nC nM w (r + 1) (rbM I c e r) (noM J r) ∧ RIn c r (rbM I c e r) (noM J r) ∧ PP c (rbM I c e r) (noM J r) ∧ 0 ≤ noM J r 516 r ∧ pot (rbM I c e r) c = pot I c := by
  have h0 := h
  obtain ⟨a1, a2, a3, a4, a5, a6, a7, a8, a9, a10⟩ := h
  have hqf : rbQ I c e r = wr (qmF J) := by
    unfold rbQ
    have : quotaF (up I (c + 1) 0 ((r : Int) + 1)) c e = quotaF I c e := by
      unfold quotaF
      rw [up_ne (show e + 1 ≠ c + 1 by omega), up_ne (show c ≠ c + 1 by omega)]
    rw [this, (qf_eq h0 hp).1]
  have hq9 := (qf_eq h0 hp).2
  obtain ⟨l1, l2, l3, l4, l5, l6, l7, l8⟩ := rb_lg (I := I) (c := c) (e := e) hr
  obtain ⟨n1, n2, n3, n4, n5, n6, n7⟩ := no_lg (J := J) (r := r)
  have nx : ∀ x, x ≠ 515 → x ≠ 523 → x ≠ 524 → (x < 516 ∨ 522 < x) → noM J r x = J x := fun x g1 g2 g3 g4 => no_e g1 g2 g3 g4
  have m509 := nx 509 (by decide) (by decide) (by decide) (by decide)
  have m508 := nx 508 (by decide) (by decide) (by decide) (by decide)
  have m525 := nx 525 (by decide) (by decide) (by decide) (by decide)
  have m527 := nx 527 (by decide) (by decide) (by decide) (by decide)
  have m530 := nx 530 (by decide) (by decide) (by decide) (by decide)
  have m531 := nx 531 (by decide) (by decide) (by decide) (by decide)
  have m532 := nx 532 (by decide) (by decide) (by decide) (by decide)
  have m533 := nx 533 (by decide) (by decide) (by decide) (by decide)
  have m534 := nx 534 (by decide) (by decide) (by decide) (by decide)
  have m535 := nx 535 (by decide) (by decide) (by decide) (by decide)
  have m536 := nx 536 (by decide) (by decide) (by decide) (by decide)
  have r10 : ∀ k, k ≠ 13 → rbM I c e r c k = I c k := fun k hk => rb_o hr (by omega) (by omega) (by omega) (by omega) (by omega) (by omega)
  have rx : ∀ x, x = c + 49 ∨ x = c + 50 → ∀ k, rbM I c e r x k = I x k := fun x hx k => rb_o hr (by omega) (by omega) (by omega) (by omega) (by omega) (by omega)
  have hE : EQc c nC w (r + 1) (rbM I c e r) (noM J r) := by
    intro a k b j hpr
    by_cases hold : PRc c nC w r a k b j
    · have g1 : rbM I c e r a k = I a k := by
        refine rb_o hr ?_ ?_ ?_ ?_ ?_ ?_ <;> (unfold PRc at hold; rcases hold with g | g | g | g | g | g | g | g | g <;> omega)
      have g2 : noM J r b j = J b j := by
        refine no_o ?_ ?_ ?_ ?_ <;> (unfold PRc at hold; have := a1.1; rcases hold with g | g | g | g | g | g | g | g | g <;> omega)
      rw [g1, g2]
      exact a2 _ _ _ _ hold
    · have hnew : (k = r ∧ j = r ∧ ((a = c + 20 ∧ b = 516) ∨ (a = c + 21 ∧ b = 517) ∨ (a = c + 22 ∧ b = 518) ∨ (a = c + 23 ∧ b = 519) ∨ (a = c + 24 ∧ b = 520) ∨ (a = c + 25 ∧ b = 521) ∨ (a = c + 26 ∧ b = 522))) ∨ (k < 8 ∧ a = c + 5 + r ∧ b = 515 ∧ j = 8 * r + k) ∨ (k < nC ∧ a = c + 28 + r ∧ b = 523 ∧ j = 25 * r + k) ∨ (k < nC ∧ a = c + 38 + r ∧ b = 524 ∧ j = 25 * r + k) := by
        unfold PRc at hpr hold
        simp only [not_or] at hold
        obtain ⟨o1, o2, o3, o4, o5, o6, o7, o8, o9⟩ := hold
        rcases hpr with g | g | g | g | g | g | g | g | g
        · exact (o1 g).elim
        · exact (o2 g).elim
        · exact (o3 g).elim
        · exact (o4 g).elim
        · exact (o5 g).elim
        · exact Or.inl (by omega)
        · exact Or.inr (Or.inl (by omega))
        · exact Or.inr (Or.inr (Or.inl (by omega)))
        · exact Or.inr (Or.inr (Or.inr (by omega)))
      have hnC := a1.1
      rcases hnew with ⟨rfl, rfl, g⟩ | ⟨g1, rfl, rfl, rfl⟩ | ⟨g1, rfl, rfl, rfl⟩ | ⟨g1, rfl, rfl, rfl⟩
      · rcases g with ⟨rfl, rfl⟩ | ⟨rfl, rfl⟩ | ⟨rfl, rfl⟩ | ⟨rfl, rfl⟩ | ⟨rfl, rfl⟩ | ⟨rfl, rfl⟩ | ⟨rfl, rfl⟩
        · rw [l1, n1, hqf]
        · rw [l2, n2]; exact a2 _ _ _ _ pr_ex
        · rw [l3, n3]; exact a2 _ _ _ _ pr_lo
        · rw [l4, n4]
        · rw [l5, n5]
        · rw [l6, n6]
        · rw [l7, n7]
      · rw [rb_vt hr g1, no_vt g1]; exact a2 _ _ _ _ (pr_vt g1)
      · rw [rb_ho hr (by omega), no_ho (by omega)]; exact a2 _ _ _ _ (pr_ho g1)
      · rw [rb_wo hr (by omega), no_wo (by omega)]; exact a2 _ _ _ _ (pr_wo g1)
  refine ⟨⟨EL_of a1 (fun x g1 g2 => rb_e (by omega)) m509, hE, ⟨fun k hk => by rw [r10 10 (by decide), m525]; exact a3.1 k hk, fun k hk => by rw [r10 11 (by decide), m525, m532]; exact a3.2.1 k hk, fun p hp hn => by rw [m533] at hn; rw [rx _ (Or.inl rfl), rx _ (Or.inr rfl), m534, m536]; exact a3.2.2 p hp hn⟩, CI_rb a4 hsp hr, MI_no a5, VA_of a6 m535 m533 m534 m525 m532 m531 m509 (by rw [m508]) (by rw [m508]), VQ_of a7 m535 m533 m525 m532 m531 m509, ?_, RK_of a9 (by rw [m508]) m530 m525 m527, by rw [r10 10 (by decide)]; exact a10⟩, ⟨fun k hk => by rw [no_vt hk, m531], by rw [l8, n1, hqf], by rw [m508]; exact h15⟩, ?_, ?_, ?_⟩
  · rw [tot_of m531 (by rw [m508]) (by rw [m508]), mPs_s m509]; exact a8
  · unfold PP at hp ⊢
    rw [r10 12 (by decide), mPs_s m509]; exact hp
  · rw [n1, wr_id (by omega)]; exact hq9.1
  · unfold pot
    rw [r10 10 (by decide), r10 11 (by decide)]
