/-! SIMULATION: piles that go on -/
def BB (c e nC nM w r1 q : Nat) (I J : II) : Prop := EL I e J nC nM ∧ EQc c nC w r1 I J ∧ AX c nC I J ∧ CI I c e ∧ MI J ∧ VA J nM ∧ VQ J nM q ∧ RK J w
/-- what a pile's going on leaves -/
def FRg (J K : II) (p q : Nat) : Prop := (∀ x, x ≠ 531 → x ≠ 533 → x ≠ 534 → x ≠ 536 → x ≠ 508 → K x = J x) ∧ (∀ k, k ≠ 39 → K 508 k = J 508 k) ∧ K 531 q = J 531 q ∧ ∀ i, ¬ i = p → K 533 i = J 533 i ∧ K 534 i = J 534 i ∧ K 536 i = J 536 i
theorem go_fr {J : II} {p q : Nat} {b r : Int} (hW : WfM J) (hp : p < 25) (hb : -1 ≤ b ∧ b < mLn J p) (hst : ¬ J 525 q = 0) : FRg J (goM J p b r) p q := by
  rcases go_cases (p := p) (b := b) (r := r) hW hp hb with ⟨d, k, c1, c2, c3, c4, c5, c6, c7⟩ | ⟨k, c1, c2, c3⟩
  · have hdq : ¬ q = d := fun e => hst (e ▸ c6)
    rw [c7]
    refine ⟨fun x h1 h2 h3 h4 h5 => by rw [up_ne h1, up_ne h2, up_ne h4, up_ne h3], fun k _ => by rw [up_ne (by omega), up_ne (by omega), up_ne (by omega), up_ne (by omega)], by rw [up_nk hdq, up_ne (by omega), up_ne (by omega), up_ne (by omega)], fun i hi => ⟨?_, ?_, ?_⟩⟩
    · rw [up_ne (by omega), up_nk hi, up_ne (by omega), up_ne (by omega)]
    · rw [up_ne (by omega), up_ne (by omega), up_ne (by omega), up_nk hi]
    · rw [up_ne (by omega), up_ne (by omega), up_nk hi, up_ne (by omega)]
  · rw [c3]
    refine ⟨fun x h1 h2 h3 h4 h5 => by rw [up_ne h5, up_ne h2, up_ne h4, up_ne h3], fun k hk => by rw [up_nk hk, up_ne (by omega), up_ne (by omega), up_ne (by omega)], by rw [up_ne (by omega), up_ne (by omega), up_ne (by omega), up_ne (by omega)], fun i hi => ⟨?_, ?_, ?_⟩⟩
    · rw [up_ne (by omega), up_nk hi, up_ne (by omega), up_ne (by omega)]
    · rw [up_ne (by omega), up_ne (by omega), up_ne (by omega), up_nk hi]
    · rw [up_ne (by omega), up_ne (by omega), up_nk hi, up_ne (by omega)]
theorem go_step {c e nC nM w r1 q p r : Nat} {I J : II} (hB : BB c e nC nM w r1 q I J) (hsp : e + 31 ≤ c) (hr1 : r1 ≤ 9) (hr : r < 9) (hp : p < nC) (hq : q < 8) (hh : J 533 p = (q : Int)) (hst : ¬ J 525 q = 0) (hT : tot J ≤ 60000000) :
    BB c e nC nM w r1 q (sendM I c e p r) (goM J p (J 534 p) r) ∧ tot (goM J p (J 534 p) r) = tot J + mSz J p * J 535 p ∧ psM (goM J p (J 534 p) r) q nM = psM J q nM - mSz J p * J 535 p ∧ ¬ goM J p (J 534 p) r 533 p = (q : Int) ∧ FRg J (goM J p (J 534 p) r) p q ∧ unitsF I c e p = mSz J p * J 535 p ∧ (0 ≤ J 534 p ∧ J 534 p < mLn J p ∧ J 534 p ≤ 8) := by
  obtain ⟨a1, a2, a3, a4, a5, a6, a7, a8⟩ := hB
  have hnn := a1.1
  have hv2 := (a6.2.1 p (by omega)).2.2 (by omega)
  have hw4 := a5.1.2.2.2.2.1 p (by omega)
  have hpl := (a3.2.2 p hp (by omega)).1
  obtain ⟨g1, g2, g3⟩ := go_sim (r := (r : Int)) a1 a2 a3 a4 a5 hr1 hp hpl (by omega)
  obtain ⟨s1, s2, s3, s4, s5⟩ := go_val (r := (r : Int)) a5 (by omega) (show p < nM by omega) a6 a7 hq hh hst rfl hT (by omega)
  have hf := go_fr (q := q) (b := J 534 p) (r := (r : Int)) a5.1 (show p < 25 by omega) (by omega) hst
  have e509 := hf.1 509 (by decide) (by decide) (by decide) (by decide) (by decide)
  refine ⟨⟨EL_of a1 (fun x h1 h2 => sendM_e (by omega)) e509, g1, g2, CI_send a4 hsp (by omega) (by omega), MI_go a5 (by omega) (by omega) (by omega), s1, s2, RK_of a8 (hf.2.1 32 (by decide)) (hf.1 530 (by decide) (by decide) (by decide) (by decide) (by decide)) (hf.1 525 (by decide) (by decide) (by decide) (by decide) (by decide)) (hf.1 527 (by decide) (by decide) (by decide) (by decide) (by decide))⟩, s3, s4, s5, hf, g3, hv2.1, hv2.2, by omega⟩
/-- a pile that only the model has, without papers -/
theorem go_stepx {c e nC nM w r1 q p r : Nat} {I J : II} (hB : BB c e nC nM w r1 q I J) (hr1 : r1 ≤ 9) (hr : r < 9) (hp : nC ≤ p) (hp2 : p < nM) (hq : q < 8) (hh : J 533 p = (q : Int)) (hst : ¬ J 525 q = 0) (hT : tot J ≤ 60000000) :
    BB c e nC nM w r1 q I (goM J p (J 534 p) r) ∧ tot (goM J p (J 534 p) r) = tot J ∧ psM (goM J p (J 534 p) r) q nM = psM J q nM ∧ ¬ goM J p (J 534 p) r 533 p = (q : Int) ∧ FRg J (goM J p (J 534 p) r) p q ∧ mSz J p = 0 ∧ (0 ≤ J 534 p ∧ J 534 p < mLn J p ∧ J 534 p ≤ 8) := by
  obtain ⟨a1, a2, a3, a4, a5, a6, a7, a8⟩ := hB
  have hnn := a1.1
  have hv2 := (a6.2.1 p (by omega)).2.2 (by omega)
  have hw4 := a5.1.2.2.2.2.1 p (by omega)
  have hz := a1.2.2.2.2.1 p hp hp2
  obtain ⟨s1, s2, s3, s4, s5⟩ := go_val (r := (r : Int)) a5 (by omega) (show p < nM by omega) a6 a7 hq hh hst rfl hT (by omega)
  have hf := go_fr (q := q) (b := J 534 p) (r := (r : Int)) a5.1 (show p < 25 by omega) (by omega) hst
  have e509 := hf.1 509 (by decide) (by decide) (by decide) (by decide) (by decide)
  rw [hz, Int.zero_mul] at s3 s4
  have hpn : ∀ a k, ¬ PRc c nC w r1 a k 533 p := fun a k h => by
    unfold PRc at h
    rcases h with h | h | h | h | h | h | h | h | h <;> omega
  refine ⟨⟨EL_of a1 (fun x h1 h2 => rfl) e509, ?_, ?_, a4, MI_go a5 (by omega) (by omega) (by omega), s1, s2, RK_of a8 (hf.2.1 32 (by decide)) (hf.1 530 (by decide) (by decide) (by decide) (by decide) (by decide)) (hf.1 525 (by decide) (by decide) (by decide) (by decide) (by decide)) (hf.1 527 (by decide) (by decide) (by decide) (by decide) (by decide))⟩, by omega, by omega, s5, hf, hz, hv2.1, hv2.2, by omega⟩
  · rcases go_cases (p := p) (b := J 534 p) (r := (r : Int)) a5.1 (by omega) (by omega) with ⟨d, k, c1, c2, c3, c4, c5, c6, c7⟩ | ⟨k, c1, c2, c3⟩
    · rw [c7, hz, Int.zero_mul, Int.add_zero, wr_id (a5.2 531 d)]
      rw [up_same (J := up (up (up J 534 p (k : Int)) 536 p (r : Int)) 533 p (d : Int)) (by rw [up_ne (by omega), up_ne (by omega), up_ne (by omega)])]
      exact eq_r (eq_r (eq_r a2 (pn_r (by omega))) (pn_r (by omega))) hpn
    · rw [c3, hz, Int.zero_mul, Int.add_zero, wr_id (a5.2 508 39)]
      rw [up_same (J := up (up (up J 534 p (k : Int)) 536 p (r : Int)) 533 p (-1)) (by rw [up_ne (by omega), up_ne (by omega), up_ne (by omega)])]
      exact eq_r (eq_r (eq_r a2 (pn_r (by omega))) (pn_r (by omega))) hpn
  · obtain ⟨x1, x2, x3⟩ := a3
    have e525 := hf.1 525 (by decide) (by decide) (by decide) (by decide) (by decide)
    have e532 := hf.1 532 (by decide) (by decide) (by decide) (by decide) (by decide)
    refine ⟨fun k hk => by rw [e525]; exact x1 k hk, fun k hk => by rw [e525, e532]; exact x2 k hk, fun i hi hn => ?_⟩
    obtain ⟨f1, f2, f3⟩ := hf.2.2.2 i (by omega)
    rw [f1] at hn
    rw [f2, f3]
    exact x3 i hi hn
/-! the parcel -/
theorem par_la {c e nC nM w r1 : Nat} {I J : II} {q : Int} (hE : EL I e J nC nM) (hQ : EQc c nC w r1 I J) (hA : AX c nC I J) (hq : 0 ≤ q) : ∀ p, p ≤ nC → lpF I c e q p = mlF J q p
  | 0, _ => rfl
  | p + 1, hp => by
    have ih := par_la hE hQ hA hq p (by omega)
    obtain ⟨f2, f3, f4⟩ := hE.2.2.2.1 p (by omega)
    unfold lpF mlF
    rw [ih, hQ _ _ _ _ (pr_ho (show p < nC by omega)), f2]
    by_cases g : J 533 p = q ∧ 0 < mSz J p
    · have h3 := (hA.2.2 p (by omega) (by omega)).2
      rw [if_pos g, h3]
      unfold mxI
      by_cases g2 : mlF J q p < J 536 p
      · rw [if_pos ⟨g.1, g.2, g2⟩, if_pos g2]
      · rw [if_neg (fun k => g2 k.2.2), if_neg g2]
    · rw [if_neg g, if_neg (fun k => g ⟨k.1, k.2.1⟩)]
theorem ml_ext {J : II} {q : Int} {nC : Nat} : ∀ k, (∀ p, nC ≤ p → p < nC + k → mSz J p = 0) → mlF J q (nC + k) = mlF J q nC
  | 0, _ => rfl
  | k + 1, h => by
    have ih := ml_ext (q := q) k (fun p h1 h2 => h p h1 (by omega))
    show (if J 533 (nC + k) = q ∧ 0 < mSz J (nC + k) then _ else mlF J q (nC + k)) = _
    rw [if_neg (fun g => by have := h (nC + k) (by omega) (by omega); omega), ih]
theorem ml_ge {J : II} {q : Int} : ∀ p, -1 ≤ mlF J q p
  | 0 => Int.le_refl _
  | p + 1 => by
    have ih := ml_ge (J := J) (q := q) p
    unfold mlF
    split
    · unfold mxI
      split <;> omega
    · exact ih
/-- how the two sides name the parcel -/
def PA (J : II) (pa la : Int) : Prop := (J 509 4 = 0 ∧ pa = -2) ∨ (¬ J 509 4 = 0 ∧ pa = la ∧ ¬ pa = -2)
theorem ip_io {c nC w r1 p : Nat} {I J : II} {q pa la : Int} (hQ : EQc c nC w r1 I J) (hA : AX c nC I J) (hP : PA J pa la) (hp : p < nC) (hq : 0 ≤ q) : ipF I c p q pa = ioF J p q la := by
  unfold ipF ioF
  rw [hQ _ _ _ _ (pr_ho hp)]
  by_cases g : J 533 p = q
  · have h3 := (hA.2.2 p hp (by omega)).2
    rw [h3]
    rcases hP with ⟨g1, g2⟩ | ⟨g1, g2, g3⟩
    · rw [if_pos ⟨g, Or.inl g2⟩, if_pos ⟨g, Or.inl g1⟩]
    · by_cases g4 : J 536 p = la
      · rw [if_pos ⟨g, Or.inr (by omega)⟩, if_pos ⟨g, Or.inr g4⟩]
      · rw [if_neg (fun k => by rcases k.2 with k | k <;> omega), if_neg (fun k => by rcases k.2 with k | k <;> omega)]
  · rw [if_neg (fun k => g k.1), if_neg (fun k => g k.1)]
theorem wp_al {c e nC nM w r1 : Nat} {I J : II} {q pa la : Int} (hE : EL I e J nC nM) (hQ : EQc c nC w r1 I J) (hA : AX c nC I J) (hP : PA J pa la) (hq : 0 ≤ q) : ∀ p, p ≤ nC → wpF I c e q pa p = alF J q la p
  | 0, _ => rfl
  | p + 1, hp => by
    unfold wpF alF
    rw [wp_al hE hQ hA hP hq p (by omega), ip_io hQ hA hP (by omega) hq, (hE.2.2.2.1 p (by omega)).1, hQ _ _ _ _ (pr_wo (show p < nC by omega))]
theorem al_ext {J : II} {q la : Int} {nC : Nat} : ∀ k, (∀ p, nC ≤ p → p < nC + k → mSz J p = 0) → alF J q la (nC + k) = alF J q la nC
  | 0, _ => rfl
  | k + 1, h => by
    have ih := al_ext (q := q) (la := la) k (fun p h1 h2 => h p h1 (by omega))
    show (if ioF J (nC + k) q la = 0 then alF J q la (nC + k) else alF J q la (nC + k) + mSz J (nC + k) * J 535 (nC + k)) = _
    rw [h (nC + k) (by omega) (by omega), Int.zero_mul, Int.add_zero, ih]
    split <;> rfl
theorem al_b {J : II} {q la : Int} (hW : WfM J) : ∀ n, n ≤ 25 → (∀ p, p < n → 0 ≤ J 535 p ∧ J 535 p ≤ 10000) → 0 ≤ alF J q la n ∧ alF J q la n ≤ 990000 * n
  | 0, _, _ => by
    show 0 ≤ (0 : Int) ∧ (0 : Int) ≤ 990000 * ((0 : Nat) : Int)
    decide
  | n + 1, hn, h => by
    have ih := al_b (q := q) (la := la) hW n (by omega) (fun p hp => h p (by omega))
    have h1 := un_b (hW.2.2.2.1 n (by omega)) (h n (by omega))
    unfold alF
    split <;> omega
/-- the new worth -/
theorem tn_ok {w su al : Int} (hw : 0 ≤ w ∧ w ≤ 10000) (hs : 0 ≤ su) (ha : 0 ≤ al) : rwF w su al = tnF w su al ∧ 0 ≤ tnF w su al ∧ tnF w su al ≤ w ∧ al * tnF w su al ≤ su * w ∧ (al = 0 → tnF w su al = 0) := by
  unfold rwF tnF twF
  by_cases h0 : al = 0
  · rw [if_pos h0, if_pos (by omega)]
    have : mnI w 0 = 0 := by unfold mnI; split <;> omega
    rw [this, wr_id (by omega)]
    refine ⟨rfl, by omega, by omega, ?_, fun _ => rfl⟩
    rw [Int.mul_zero]
    exact Int.mul_nonneg hs hw.1
  · rw [if_neg h0, if_neg (by omega)]
    have hp : 0 ≤ w * su := Int.mul_nonneg hw.1 hs
    have hd : (w * su).tdiv al = (w * su) / al := Int.tdiv_eq_ediv_of_nonneg hp
    have hq0 : 0 ≤ (w * su) / al := Int.ediv_nonneg hp ha
    have hq1 : (w * su) / al * al ≤ w * su := Int.ediv_mul_le _ (by omega)
    rw [hd]
    generalize hQ : (w * su) / al = Q at *
    have hm : mnI w Q ≤ w ∧ mnI w Q ≤ Q ∧ 0 ≤ mnI w Q := by unfold mnI; split <;> omega
    rw [wr_id (by omega)]
    refine ⟨rfl, hm.2.2, hm.1, ?_, fun g => (h0 g).elim⟩
    have h3 : al * mnI w Q ≤ al * Q := Int.mul_le_mul_of_nonneg_left hm.2.1 ha
    have h4 : al * Q = Q * al := Int.mul_comm _ _
    have h5 : w * su = su * w := Int.mul_comm _ _
    omega
