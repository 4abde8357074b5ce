/-! SIMULATION: seats by the quota, seats for all -/
def pot (I : II) (c : Nat) : Nat := pop8 (I c 10).toNat + pop8 (I c 11).toNat
theorem RIn_ch {c e r s : Nat} {m : Int} {I J : II} (h : RIn c r I J) : RIn c r (chJ I c e s r m) J := ⟨h.1, by rw [chJ_ne (by omega)]; exact h.2.1, h.2.2⟩
theorem pot_ch {c e r s : Nat} {m : Int} {I : II} : pot (chJ I c e s r m) c = pot I c := by unfold pot; rw [chJ_ne (by omega)]
theorem pop_pos : ∀ s : Nat, s < 256 → ¬ s = 0 → 1 ≤ pop8 s := by decide +kernel
/-- the set of the hopeful, as the model finds it -/
theorem hp_eq {c e nC nM w r1 n : Nat} {I J : II} (h : RR9 c e nC nM w r1 I J) (hn : J 509 0 = (n : Int)) : hpF J 0 n = (I c 10).toNat := by
  obtain ⟨a1, a2, a3, a4, a5, a6, a7, a8, a9, a10⟩ := h
  obtain ⟨x1, x2, x3⟩ := a3
  have hn8 : n ≤ 8 := by have := a5.1.1; omega
  have h10 := a4.2.2.1
  refine bt_ext (hpF_lt J 0 n hn8) (by omega) fun k hk => ?_
  rw [hp_bt hn8 hk, x1 k hk]
  obtain ⟨z1, z2, z3, z4⟩ := a6.2.2.1 k hk
  by_cases g : J 525 k = 0
  · have hkn : k < n := by
      by_cases g2 : k < n
      · exact g2
      · have := z2 (by omega)
        omega
    rw [if_pos g, if_pos ⟨hkn, g, z4⟩]
  · rw [if_neg g, if_neg (fun g2 => g g2.2.1)]
theorem wq_sim {c e nC nM r : Nat} {qv : Int} (hsp : e + 31 ≤ c) (hr : r < 9) : ∀ (k w : Nat) (I J : II), RR9 c e nC nM w (r + 1) I J → RIn c r I J → J 516 r = qv → (w : Int) ≤ J 509 6 → k = (J 509 6 - w).toNat → ∀ f, k < f →
    ∃ (w2 : Nat) (K : II), wqL r qv f J = some K ∧ RR9 c e nC nM w2 (r + 1) (ewM c e r k I) K ∧ RIn c r (ewM c e r k I) K ∧ (w2 : Int) ≤ K 509 6 ∧ pot (ewM c e r k I) c = pot I c
  | 0, w, I, J, h, hi, hqv, hw, hk, f, hf => by
    obtain ⟨f2, rfl⟩ : ∃ f2, f = f2 + 1 := ⟨f - 1, by omega⟩
    refine ⟨w, J, ?_, h, hi, hw, rfl⟩
    unfold wqL
    rw [if_neg (fun g => by have := h.2.2.2.2.2.2.2.2.1.1; omega)]
  | k + 1, w, I, J, h, hi, hqv, hw, hk, f, hf => by
    obtain ⟨f2, rfl⟩ : ∃ f2, f = f2 + 1 := ⟨f - 1, by omega⟩
    have h0 := h
    obtain ⟨a1, a2, a3, a4, a5, a6, a7, a8, a9, a10⟩ := h
    obtain ⟨x1, x2, x3⟩ := a3
    obtain ⟨n, hn, hn8, hn2⟩ := nTo a5
    have h10 := a4.2.2.1
    have ht8 := hpF_lt J qv n hn8
    have htb := fun q (hq : q < 8) => hp_bt (J := J) (ls := qv) (n := n) hn8 hq
    have hvt : ∀ q, q < 8 → mVt J r q = J 531 q := fun q hq => hi.1 q hq
    unfold wqL ewM
    unfold hpN
    rw [hn, Int.toNat_natCast]
    by_cases ht : hpF J qv n = 0
    · rw [if_neg (fun g => g.2 ht)]
      obtain ⟨q1, q2⟩ := look_eq (s := (I c 10).toNat) (t := (I c 10).toNat) (m := 1) h0 hr rfl
      rw [q2]
      have hch : RR9 c e nC nM w (r + 1) (chJ I c e (I c 10).toNat r 1) J := RR_ch h0 hsp (by omega) hr
      by_cases hv : lkV J r (I c 10).toNat 1 = -1
      · rw [if_pos hv]
        exact ⟨w, J, rfl, hch, RIn_ch hi, hw, pot_ch⟩
      · rw [if_neg hv]
        have hrg := lkV_rng (r := r) (s := (I c 10).toNat) (m := 1) a5.1
        obtain ⟨q, e1, e2, e3, e4⟩ := look_in a5 (show 0 ≤ lkV J r (I c 10).toNat 1 by omega)
        rw [x1 q e3] at e4
        have e5 : J 525 q = 0 := by
          by_cases g : J 525 q = 0
          · exact g
          · rw [if_neg g] at e4; omega
        rw [e1, Int.toNat_natCast]
        have e6 : I (c + 47) q < I c 13 := by
          by_cases g : I (c + 47) q < I c 13
          · exact g
          · have e7 := htb q e3
            rw [ht, bt_z, if_pos ⟨by omega, e5, by rw [hi.2.1, hqv, a2 _ _ _ _ (pr_vt e3)] at g; omega⟩] at e7
            omega
        rw [if_pos e6]
        exact ⟨w, J, rfl, hch, RIn_ch hi, hw, pot_ch⟩
    · rw [if_pos ⟨by have := a9.1; omega, ht⟩]
      obtain ⟨c1, g1, g2⟩ := bt_one ht8 ht
      have g3 := htb c1 g1
      rw [g2] at g3
      have g4 : c1 < n ∧ J 525 c1 = 0 ∧ qv ≤ J 531 c1 := by
        by_cases g : c1 < n ∧ J 525 c1 = 0 ∧ qv ≤ J 531 c1
        · exact g
        · rw [if_neg g] at g3; omega
      have hmost : (extF (mVt J r) (I c 10).toNat 1 n).1 = (extF (mVt J r) (hpF J qv n) 1 n).1 := by
        refine ext_most (mVt J r) (v := qv) hn8 (fun q hq => ?_) g4.1 g2
        rw [htb q (by omega), x1 q (by omega), hvt q (by omega)]
        by_cases g5 : J 525 q = 0
        · rw [if_pos g5]
          by_cases g6 : qv ≤ J 531 q
          · rw [if_pos ⟨hq, g5, g6⟩, if_pos ⟨rfl, g6⟩]
          · rw [if_neg (fun g7 => g6 g7.2.2), if_neg (fun g7 => g6 g7.2)]
        · rw [if_neg g5, if_neg (fun g7 => g5 g7.2.1), if_neg (fun g7 => by omega)]
      obtain ⟨q1, q2⟩ := look_eq (s := (I c 10).toNat) (t := hpF J qv n) (m := 1) h0 hr (by rw [hn, Int.toNat_natCast]; exact hmost)
      have hsome := look_some (r := r) (t := hpF J qv n) (m := 1) a5 a1 (c0 := c1) (by omega) g2
      obtain ⟨q, e1, e2, e3, e4⟩ := look_in a5 hsome
      rw [htb q e3] at e4
      have e5 : q < n ∧ J 525 q = 0 ∧ qv ≤ J 531 q := by
        by_cases g : q < n ∧ J 525 q = 0 ∧ qv ≤ J 531 q
        · exact g
        · rw [if_neg g] at e4; omega
      have hbq := x1 q e3
      rw [if_pos e5.2.1] at hbq
      have hpp := pop_pos (I c 10).toNat (by omega) (bt_n0 hbq)
      have hw8 : w < 8 := by omega
      have h26 : I (c + 26) r = J 522 r := a2 _ _ _ _ (pr_lg (i := 6) (by omega) (by omega))
      have hc26 : 0 ≤ I (c + 26) r ∧ I (c + 26) r < 256 := a4.2.2.2.2.2.2 r
      rw [if_pos (show emC J r (hpF J qv n) from ⟨hsome, by have := a9.1; omega, by have := a9.1; omega, by omega, by omega⟩)]
      rw [q2, e1, Int.toNat_natCast]
      rw [if_neg (show ¬ ((q : Nat) : Int) = -1 by omega), if_neg (by rw [hi.2.1, hqv, a2 _ _ _ _ (pr_vt e3)]; omega)]
      have hch : RR9 c e nC nM w (r + 1) (chJ I c e (I c 10).toNat r 1) J := RR_ch h0 hsp (by omega) hr
      obtain ⟨s1, s2, s3, s4⟩ := el_sim (s := hpF J qv n) (rs := 1) hch (RIn_ch hi) hsp hr e3 e5.2.1 hw8 (by omega)
      have m509 : emM J r (hpF J qv n) 1 q 509 = J 509 := em_e (by omega) (by omega) (by omega) (by omega) (by omega) (by omega) (by omega)
      have m516 : emM J r (hpF J qv n) 1 q 516 = J 516 := em_e (by omega) (by omega) (by omega) (by omega) (by omega) (by omega) (by omega)
      obtain ⟨w2, K, t1, t2, t3, t4, t5⟩ := wq_sim (qv := qv) hsp hr k (w + 1) _ _ s1 s2 (by rw [m516]; exact hqv) (by rw [m509]; omega) (by rw [m509]; omega) f2 (by omega)
      refine ⟨w2, K, t1, t2, t3, t4, t5.trans ?_⟩
      have e9 : pot (chJ I c e (I c 10).toNat r 1) c = pot I c := pot_ch
      unfold pot at e9 ⊢
      omega
theorem wa_sim {c e nC nM r : Nat} {fr : Int} (hsp : e + 31 ≤ c) (hr : r < 9) (hfr : 0 < fr) : ∀ (k w : Nat) (I J : II), RR9 c e nC nM w (r + 1) I J → RIn c r I J → pop8 (I c 10).toNat ≤ k → ∀ f, k < f →
    ∃ (w2 : Nat) (K : II), waL r fr f J = some K ∧ RR9 c e nC nM w2 (r + 1) (eaM c e r k I) K ∧ RIn c r (eaM c e r k I) K
  | 0, w, I, J, h, hi, hp, f, hf => by
    obtain ⟨f2, rfl⟩ : ∃ f2, f = f2 + 1 := ⟨f - 1, by omega⟩
    obtain ⟨n, hn, hn8, hn2⟩ := nTo h.2.2.2.2.1
    have he := hp_eq h hn
    have h10 := h.2.2.2.1.2.2.1
    have h0 := pop_0 (I c 10).toNat (by omega) (by omega)
    refine ⟨w, J, ?_, h, hi⟩
    unfold waL hpN
    rw [hn, Int.toNat_natCast, he, if_neg (fun g => g.2 h0)]
  | k + 1, w, I, J, h, hi, hp, f, hf => by
    obtain ⟨f2, rfl⟩ : ∃ f2, f = f2 + 1 := ⟨f - 1, by omega⟩
    have h0 := h
    obtain ⟨a1, a2, a3, a4, a5, a6, a7, a8, a9, a10⟩ := h
    obtain ⟨x1, x2, x3⟩ := a3
    obtain ⟨n, hn, hn8, hn2⟩ := nTo a5
    have h10 := a4.2.2.1
    have he := hp_eq h0 hn
    unfold waL eaM
    unfold hpN
    rw [hn, Int.toNat_natCast, he]
    by_cases hz : I c 10 = 0
    · rw [if_pos hz, if_neg (fun g => g.2 (by rw [hz]; rfl))]
      exact ⟨w, J, rfl, h0, hi⟩
    · rw [if_neg hz, if_pos ⟨hfr, by omega⟩]
      obtain ⟨c1, g1, g2⟩ := bt_one (s := (I c 10).toNat) (by omega) (by omega)
      have g3 := x1 c1 g1
      rw [g2] at g3
      have g4 : J 525 c1 = 0 := by
        by_cases g : J 525 c1 = 0
        · exact g
        · rw [if_neg g] at g3; omega
      have g5 : c1 < n := by
        by_cases g : c1 < n
        · exact g
        · have := (a6.2.2.1 c1 g1).2.1 (by omega)
          omega
      obtain ⟨q1, q2⟩ := look_eq (s := (I c 10).toNat) (t := (I c 10).toNat) (m := 1) h0 hr rfl
      have hsome := look_some (r := r) (t := (I c 10).toNat) (m := 1) a5 a1 (c0 := c1) (by omega) g2
      obtain ⟨q, e1, e2, e3, e4⟩ := look_in a5 hsome
      rw [x1 q e3] at e4
      have e5 : J 525 q = 0 := by
        by_cases g : J 525 q = 0
        · exact g
        · rw [if_neg g] at e4; omega
      have hpp := pop_pos (I c 10).toNat (by omega) (by omega)
      have hw8 : w < 8 := by omega
      have h26 : I (c + 26) r = J 522 r := a2 _ _ _ _ (pr_lg (i := 6) (by omega) (by omega))
      have hc26 : 0 ≤ I (c + 26) r ∧ I (c + 26) r < 256 := a4.2.2.2.2.2.2 r
      rw [if_pos (show emC J r (I c 10).toNat from ⟨hsome, by have := a9.1; omega, by have := a9.1; omega, by omega, by omega⟩)]
      rw [q2, e1, Int.toNat_natCast, if_neg (show ¬ ((q : Nat) : Int) = -1 by omega)]
      have hch : RR9 c e nC nM w (r + 1) (chJ I c e (I c 10).toNat r 1) J := RR_ch h0 hsp (by omega) hr
      obtain ⟨s1, s2, s3, s4⟩ := el_sim (s := (I c 10).toNat) (rs := 2) hch (RIn_ch hi) hsp hr e3 e5 hw8 (by omega)
      rw [chJ_ne (by omega)] at s3
      exact wa_sim hsp hr hfr k (w + 1) _ _ s1 s2 (by omega) f2 (by omega)
