/-! SIMULATION: the beginning of a count; the count -/
theorem stS_a {I J : II} {c e k : Nat} : stS I c e k J = up (up (up (up (up (up J c 10 (hopF I e (k + 1))) (c + 3) k (if standF I e k = 0 then 3 else 0)) (c + 47) k 0) (c + 16) k (-1)) (c + 17) k 0) (c + 18) k (-1) := rfl
def scB (I : II) (c : Nat) : II := up (up (up I c 10 0) c 11 0) (c + 1) 1 0
theorem sc_v {I : II} {c e : Nat} : ∀ n k : Nat, k < n → foldUp (stS I c e) (scB I c) n (c + 3) k = (if standF I e k = 0 then 3 else 0) ∧ foldUp (stS I c e) (scB I c) n (c + 47) k = 0 ∧ foldUp (stS I c e) (scB I c) n (c + 16) k = -1 ∧ foldUp (stS I c e) (scB I c) n (c + 17) k = 0 ∧ foldUp (stS I c e) (scB I c) n (c + 18) k = -1
  | 0, k, h => by omega
  | n + 1, k, h => by
    rw [fold_s, stS_a]
    by_cases g : k = n
    · subst g
      refine ⟨?_, ?_, ?_, ?_, ?_⟩
      · rw [up_ne (by omega), up_ne (by omega), up_ne (by omega), up_ne (by omega), up_eq]
      · rw [up_ne (by omega), up_ne (by omega), up_ne (by omega), up_eq]
      · rw [up_ne (by omega), up_ne (by omega), up_eq]
      · rw [up_ne (by omega), up_eq]
      · rw [up_eq]
    · obtain ⟨a1, a2, a3, a4, a5⟩ := sc_v (I := I) (c := c) (e := e) n k (by omega)
      refine ⟨?_, ?_, ?_, ?_, ?_⟩
      · rw [up_ne (by omega), up_ne (by omega), up_ne (by omega), up_ne (by omega), up_nk g, up_ne (by omega)]; exact a1
      · rw [up_ne (by omega), up_ne (by omega), up_ne (by omega), up_nk g, up_ne (by omega), up_ne (by omega)]; exact a2
      · rw [up_ne (by omega), up_ne (by omega), up_nk g, up_ne (by omega), up_ne (by omega), up_ne (by omega)]; exact a3
      · rw [up_ne (by omega), up_nk g, up_ne (by omega), up_ne (by omega), up_ne (by omega), up_ne (by omega)]; exact a4
      · rw [up_nk g, up_ne (by omega), up_ne (by omega), up_ne (by omega), up_ne (by omega), up_ne (by omega)]; exact a5
theorem sc_11 {I : II} {c e : Nat} : ∀ n : Nat, foldUp (stS I c e) (scB I c) n c 11 = 0 ∧ foldUp (stS I c e) (scB I c) n (c + 1) 1 = 0
  | 0 => by
    rw [fold_0]
    unfold scB
    exact ⟨by rw [up_ne (by omega), up_eq], up_eq⟩
  | n + 1 => by
    obtain ⟨a, b⟩ := sc_11 (I := I) (c := c) (e := e) n
    rw [fold_s, stS_a]
    refine ⟨?_, ?_⟩
    · rw [up_ne (by omega), up_ne (by omega), up_ne (by omega), up_ne (by omega), up_ne (by omega), up_nk (by omega)]; exact a
    · rw [up_ne (by omega), up_ne (by omega), up_ne (by omega), up_ne (by omega), up_ne (by omega), up_ne (by omega)]; exact b
theorem pq_v {J : II} : ∀ n k : Nat, k < n → foldUp (pqS J) (prI J) n 525 k = psF J k ∧ foldUp (pqS J) (prI J) n 526 k = -1 ∧ foldUp (pqS J) (prI J) n 527 k = -1 ∧ foldUp (pqS J) (prI J) n 528 k = 0 ∧ foldUp (pqS J) (prI J) n 529 k = -1 ∧ foldUp (pqS J) (prI J) n 531 k = 0 ∧ foldUp (pqS J) (prI J) n 532 k = 0
  | 0, k, h => by omega
  | n + 1, k, h => by
    rw [fold_s, pqS_eq]
    by_cases g : k = n
    · subst g
      refine ⟨?_, ?_, ?_, ?_, ?_, ?_, ?_⟩
      · rw [up_ne (by decide), up_ne (by decide), up_ne (by decide), up_ne (by decide), up_ne (by decide), up_ne (by decide), up_eq]
      · rw [up_ne (by decide), up_ne (by decide), up_ne (by decide), up_ne (by decide), up_ne (by decide), up_eq]
      · rw [up_ne (by decide), up_ne (by decide), up_ne (by decide), up_ne (by decide), up_eq]
      · rw [up_ne (by decide), up_ne (by decide), up_ne (by decide), up_eq]
      · rw [up_ne (by decide), up_ne (by decide), up_eq]
      · rw [up_ne (by decide), up_eq]
      · rw [up_eq]
    · obtain ⟨a1, a2, a3, a4, a5, a6, a7⟩ := pq_v (J := J) n k (by omega)
      refine ⟨?_, ?_, ?_, ?_, ?_, ?_, ?_⟩
      · rw [up_ne (by decide), up_ne (by decide), up_ne (by decide), up_ne (by decide), up_ne (by decide), up_ne (by decide), up_nk g]; exact a1
      · rw [up_ne (by decide), up_ne (by decide), up_ne (by decide), up_ne (by decide), up_ne (by decide), up_nk g, up_ne (by decide)]; exact a2
      · rw [up_ne (by decide), up_ne (by decide), up_ne (by decide), up_ne (by decide), up_nk g, up_ne (by decide), up_ne (by decide)]; exact a3
      · rw [up_ne (by decide), up_ne (by decide), up_ne (by decide), up_nk g, up_ne (by decide), up_ne (by decide), up_ne (by decide)]; exact a4
      · rw [up_ne (by decide), up_ne (by decide), up_nk g, up_ne (by decide), up_ne (by decide), up_ne (by decide), up_ne (by decide)]; exact a5
      · rw [up_ne (by decide), up_nk g, up_ne (by decide), up_ne (by decide), up_ne (by decide), up_ne (by decide), up_ne (by decide)]; exact a6
      · rw [up_nk g, up_ne (by decide), up_ne (by decide), up_ne (by decide), up_ne (by decide), up_ne (by decide), up_ne (by decide)]; exact a7
theorem pq_8 {J : II} : ∀ n : Nat, foldUp (pqS J) (prI J) n 508 32 = 0 ∧ foldUp (pqS J) (prI J) n 508 39 = 0 ∧ foldUp (pqS J) (prI J) n 508 40 = 0
  | 0 => by
    rw [fold_0]
    unfold prI
    exact ⟨by rw [up_nk (by decide), up_nk (by decide), up_eq], by rw [up_nk (by decide), up_eq], up_eq⟩
  | n + 1 => by
    obtain ⟨a, b, d⟩ := pq_8 (J := J) n
    rw [fold_s, pqS_eq, up_ne (by decide), up_ne (by decide), up_ne (by decide), up_ne (by decide), up_ne (by decide), up_ne (by decide), up_ne (by decide)]
    exact ⟨a, b, d⟩
theorem sumTo_z {f : Nat → Int} : ∀ n, (∀ i, i < n → f i = 0) → sumTo f n = 0
  | 0, _ => rfl
  | n + 1, h => by
    show sumTo f n + f n = 0
    rw [sumTo_z n (fun i hi => h i (by omega)), h n (by omega)]
    rfl
theorem sumTo_ext {f : Nat → Int} {n : Nat} : ∀ k, (∀ p, n ≤ p → p < n + k → f p = 0) → sumTo f (n + k) = sumTo f n
  | 0, _ => rfl
  | k + 1, h => by
    show sumTo f (n + k) + f (n + k) = _
    rw [sumTo_ext k (fun p h1 h2 => h p h1 (by omega)), h (n + k) (by omega) (by omega), Int.add_zero]
/-- the election's beginning: the numbers of a pile laid -/
theorem st_val {B : II} {p : Nat} (hM : MI B) (hp : p < 25) (hA : VA B p) (hV : VQ B p 8) (hT : tot B ≤ 30000000) :
    VA (ppS p B) (p + 1) ∧ VQ (ppS p B) (p + 1) 8 ∧ tot (ppS p B) = tot B + 10000 * mSz B p ∧ (∀ x, x ≠ 531 → x ≠ 533 → x ≠ 534 → x ≠ 535 → x ≠ 536 → x ≠ 508 → ppS p B x = B x) ∧ ∀ k, k ≠ 39 → ppS p B 508 k = B 508 k := by
  obtain ⟨v1, v2, v3, v4, v5⟩ := hA
  have hM1 : MI (up B 535 p 10000) := MI_up hM (by decide) (by omega)
  have e9 : (up B 535 p 10000) 509 = B 509 := up_ne (by decide)
  have hs := hM.1.2.2.2.1 p hp
  have hl := hM.1.2.2.2.2.1 p hp
  rw [ppS_eq]
  rcases go_cases (p := p) (b := -1) (r := -1) hM1.1 hp (by rw [ml_of e9]; omega) with ⟨d, k, c1, c2, c3, c4, c5, c6, c7⟩ | ⟨k, c1, c2, c3⟩
  · rw [up_ne (by decide)] at c6
    have e531 := hV d c1 (by omega) (Or.inl c6)
    have hps := ps_b (q := (d : Int)) hM.1 p (by omega) v1
    rw [ms_of e9, up_eq, up_ne (show (531 : Nat) ≠ 535 by decide), wr_id (by omega)] at c7
    rw [c7]
    rw [ml_of e9] at c2
    generalize hK : up (up (up (up (up B 535 p 10000) 534 p (k : Int)) 536 p (-1)) 533 p (d : Int)) 531 d (B 531 d + mSz B p * 10000) = K
    have kx : ∀ x, x ≠ 531 → x ≠ 533 → x ≠ 534 → x ≠ 535 → x ≠ 536 → K x = B x := fun x h1 h2 h3 h4 h5 => by rw [← hK, up_ne h1, up_ne h2, up_ne h5, up_ne h3, up_ne h4]
    have k535 : ∀ i, K 535 i = if i = p then 10000 else B 535 i := fun i => by
      rw [← hK, up_ne (by decide), up_ne (by decide), up_ne (by decide), up_ne (by decide)]
      by_cases g : i = p
      · rw [g, up_eq, if_pos rfl]
      · rw [up_nk g, if_neg g]
    have k533 : ∀ i, K 533 i = if i = p then (d : Int) else B 533 i := fun i => by
      rw [← hK, up_ne (by decide)]
      by_cases g : i = p
      · rw [g, up_eq, if_pos rfl]
      · rw [up_nk g, if_neg g, up_ne (by decide), up_ne (by decide), up_ne (by decide)]
    have k534 : ∀ i, K 534 i = if i = p then (k : Int) else B 534 i := fun i => by
      rw [← hK, up_ne (by decide), up_ne (by decide), up_ne (by decide)]
      by_cases g : i = p
      · rw [g, up_eq, if_pos rfl]
      · rw [up_nk g, if_neg g, up_ne (by decide)]
    have k531 : ∀ i, K 531 i = if i = d then B 531 d + mSz B p * 10000 else B 531 i := fun i => by
      rw [← hK]
      by_cases g : i = d
      · rw [g, up_eq, if_pos rfl]
      · rw [up_nk g, if_neg g, up_ne (by decide), up_ne (by decide), up_ne (by decide), up_ne (by decide)]
    have k509 := kx 509 (by decide) (by decide) (by decide) (by decide) (by decide)
    have k508 := kx 508 (by decide) (by decide) (by decide) (by decide) (by decide)
    have k525 := kx 525 (by decide) (by decide) (by decide) (by decide) (by decide)
    have k532 := kx 532 (by decide) (by decide) (by decide) (by decide) (by decide)
    refine ⟨⟨fun i hi => ?_, fun i hi => ?_, fun q hq => ?_, by rw [k508]; exact v4, by rw [k508]; exact v5⟩, fun q hq hx hst => ?_, ?_, fun x h1 h2 h3 h4 h5 _ => kx x h1 h2 h3 h4 h5, fun k _ => by rw [k508]⟩
    · rw [k535]
      by_cases g : i = p
      · rw [if_pos g]; omega
      · rw [if_neg g]; exact v1 i (by omega)
    · rw [k533, k534, ml_of k509]
      by_cases g : i = p
      · rw [if_pos g, if_pos g, g]; exact ⟨by omega, by omega, fun _ => by omega⟩
      · rw [if_neg g, if_neg g]; exact v2 i (by omega)
    · rw [k525, k532, k509, k531]
      obtain ⟨z1, z2, z3, z4⟩ := v3 q hq
      refine ⟨z1, z2, z3, ?_⟩
      by_cases g : q = d
      · rw [if_pos g]; omega
      · rw [if_neg g]; exact z4
    · rw [k525, k532] at hst
      have e1 : psM K q p = psM B q p := ps_of p fun i hi => ⟨by rw [k533, if_neg (by omega)], by rw [ms_of k509, k535, if_neg (by omega)]⟩
      unfold psM
      rw [e1, k533, if_pos rfl, ms_of k509, k535, if_pos rfl, k531, hV q hq hx hst |>.symm]
      by_cases g : q = d
      · rw [if_pos g, if_pos (by rw [g]), g]
      · rw [if_neg g, if_neg (by omega)]; omega
    · unfold tot
      rw [k508, sumTo_set (f := B 531) 8 c1 (fun i _ hi => by rw [k531, if_neg hi]), k531, if_pos rfl]
      omega
  · have hge := sumTo_nn (f := B 531) 8 (fun i hi => (v3 i hi).2.2.2)
    have htb : tot B = sumTo (B 531) 8 + B 508 39 + B 508 40 := rfl
    rw [ms_of e9, up_eq, up_ne (show (508 : Nat) ≠ 535 by decide), wr_id (by omega)] at c3
    rw [c3]
    generalize hK : up (up (up (up (up B 535 p 10000) 534 p (k : Int)) 536 p (-1)) 533 p (-1)) 508 39 (B 508 39 + mSz B p * 10000) = K
    have kx : ∀ x, x ≠ 533 → x ≠ 534 → x ≠ 535 → x ≠ 536 → x ≠ 508 → K x = B x := fun x h2 h3 h4 h5 h6 => by rw [← hK, up_ne h6, up_ne h2, up_ne h5, up_ne h3, up_ne h4]
    have k535 : ∀ i, K 535 i = if i = p then 10000 else B 535 i := fun i => by
      rw [← hK, up_ne (by decide), up_ne (by decide), up_ne (by decide), up_ne (by decide)]
      by_cases g : i = p
      · rw [g, up_eq, if_pos rfl]
      · rw [up_nk g, if_neg g]
    have k533 : ∀ i, K 533 i = if i = p then -1 else B 533 i := fun i => by
      rw [← hK, up_ne (by decide)]
      by_cases g : i = p
      · rw [g, up_eq, if_pos rfl]
      · rw [up_nk g, if_neg g, up_ne (by decide), up_ne (by decide), up_ne (by decide)]
    have k534 : ∀ i, ¬ i = p → K 534 i = B 534 i := fun i g => by
      rw [← hK, up_ne (by decide), up_ne (by decide), up_ne (by decide), up_nk g, up_ne (by decide)]
    have k8 : ∀ k, k ≠ 39 → K 508 k = B 508 k := fun k hk => by rw [← hK, up_nk hk, up_ne (by decide), up_ne (by decide), up_ne (by decide), up_ne (by decide)]
    have k39 : K 508 39 = B 508 39 + mSz B p * 10000 := by rw [← hK, up_eq]
    have k509 := kx 509 (by decide) (by decide) (by decide) (by decide) (by decide)
    have k525 := kx 525 (by decide) (by decide) (by decide) (by decide) (by decide)
    have k531 := kx 531 (by decide) (by decide) (by decide) (by decide) (by decide)
    have k532 := kx 532 (by decide) (by decide) (by decide) (by decide) (by decide)
    refine ⟨⟨fun i hi => ?_, fun i hi => ?_, fun q hq => by rw [k525, k532, k509, k531]; exact v3 q hq, by rw [k39]; omega, by rw [k8 40 (by decide)]; exact v5⟩, fun q hq hx hst => ?_, ?_, fun x h1 h2 h3 h4 h5 h6 => kx x h2 h3 h4 h5 h6, k8⟩
    · rw [k535]
      by_cases g : i = p
      · rw [if_pos g]; omega
      · rw [if_neg g]; exact v1 i (by omega)
    · rw [k533, ml_of k509]
      by_cases g : i = p
      · rw [if_pos g]; exact ⟨by omega, by omega, fun g2 => (g2 rfl).elim⟩
      · rw [if_neg g, k534 i g]; exact v2 i (by omega)
    · rw [k525, k532] at hst
      have e1 : psM K q p = psM B q p := ps_of p fun i hi => ⟨by rw [k533, if_neg (by omega)], by rw [ms_of k509, k535, if_neg (by omega)]⟩
      unfold psM
      rw [e1, k533, if_pos rfl, if_neg (by omega), k531, hV q hq hx hst]
      omega
    · unfold tot
      rw [k531, k39, k8 40 (by decide)]
      omega
theorem eq_h {c p w r : Nat} {I J : II} {x y : Int} (h : EQc c p w r I J) (hr : r = 0) : EQc c (p + 1) w r (up (up I (c + 51) p y) (c + 48) p x) (up (up J 535 p y) 533 p x) := by
  subst hr
  intro a k b j h2
  by_cases e1 : a = c + 48 ∧ k = p
  · obtain ⟨rfl, rfl⟩ := e1
    have : b = 533 ∧ j = k := by
      unfold PRc at h2
      rcases h2 with h2 | h2 | h2 | h2 | h2 | h2 | h2 | h2 | h2 <;> omega
    obtain ⟨rfl, rfl⟩ := this
    rw [up_eq, up_eq]
  · by_cases e2 : a = c + 51 ∧ k = p
    · obtain ⟨rfl, rfl⟩ := e2
      have : b = 535 ∧ j = k := by
        unfold PRc at h2
        rcases h2 with h2 | h2 | h2 | h2 | h2 | h2 | h2 | h2 | h2 <;> omega
      obtain ⟨rfl, rfl⟩ := this
      rw [up_ne (by omega), up_eq, up_ne (by omega), up_eq]
    · have e3 : ¬ (b = 533 ∧ j = p) := fun g => by
        unfold PRc at h2
        rcases h2 with h2 | h2 | h2 | h2 | h2 | h2 | h2 | h2 | h2 <;> omega
      have e4 : ¬ (b = 535 ∧ j = p) := fun g => by
        unfold PRc at h2
        rcases h2 with h2 | h2 | h2 | h2 | h2 | h2 | h2 | h2 | h2 <;> omega
      rw [up_o e1, up_o e2, up_o e3, up_o e4]
      refine h _ _ _ _ ?_
      unfold PRc at h2 ⊢
      rcases h2 with h2 | h2 | h2 | h2 | h2 | h2 | h2 | h2 | h2
      · exact Or.inl h2
      · exact Or.inr (Or.inl h2)
      · exact Or.inr (Or.inr (Or.inl h2))
      · exact Or.inr (Or.inr (Or.inr (Or.inl h2)))
      · exact Or.inr (Or.inr (Or.inr (Or.inr (Or.inl (by omega)))))
      · omega
      · omega
      · omega
      · omega
def SV (c e nC nM p : Nat) (A B : II) : Prop := EL A e B nC nM ∧ EQc c (min p nC) 0 0 A B ∧ AX c (min p nC) A B ∧ CI A c e ∧ MI B ∧ VA B p ∧ VQ B p 8 ∧ tot B = 10000 * sumTo (mSz B) p ∧ RK B 0
theorem sp_sim {c e nC nM p : Nat} {A B : II} (h : SV c e nC nM p A B) (hsp : e + 31 ≤ c) (hp : p < nM) : SV c e nC nM (p + 1) (if p < nC then spS c e p A else A) (ppS p B) := by
  obtain ⟨a1, a2, a3, a4, a5, a6, a7, a8, a9⟩ := h
  have hnn := a1.1
  have hsb := sumTo_b (f := mSz B) (n := p) (fun i hi => a5.1.2.2.2.1 i (by omega)) p (Nat.le_refl _)
  obtain ⟨s1, s2, s3, s4, s5⟩ := st_val a5 (show p < 25 by omega) a6 a7 (by omega)
  have e509 := s4 509 (by decide) (by decide) (by decide) (by decide) (by decide) (by decide)
  have e525 := s4 525 (by decide) (by decide) (by decide) (by decide) (by decide) (by decide)
  have e527 := s4 527 (by decide) (by decide) (by decide) (by decide) (by decide) (by decide)
  have e530 := s4 530 (by decide) (by decide) (by decide) (by decide) (by decide) (by decide)
  have e532 := s4 532 (by decide) (by decide) (by decide) (by decide) (by decide) (by decide)
  have hM1 : MI (up B 535 p 10000) := MI_up a5 (by decide) (by omega)
  have e9 : (up B 535 p 10000) 509 = B 509 := up_ne (by decide)
  have hl := a5.1.2.2.2.2.1 p (by omega)
  have hMp : MI (ppS p B) := by
    rw [ppS_eq]
    exact MI_go hM1 (by omega) (by omega) (by omega)
  have hT : tot (ppS p B) = 10000 * sumTo (mSz (ppS p B)) (p + 1) := by
    have e1 : mSz (ppS p B) = mSz B := by funext i; exact ms_of e509 i
    rw [s3, e1, a8]
    show _ = 10000 * (sumTo (mSz B) p + mSz B p)
    omega
  have hR : RK (ppS p B) 0 := RK_of a9 (s5 32 (by decide)) e530 e525 e527
  have hx : ∀ x, x = 533 → x ≠ p → True := fun _ _ _ => trivial
  by_cases g : p < nC
  · rw [if_pos g]
    rw [show min p nC = p by omega] at a2 a3
    have hA1 : CI (spS c e p A) c e := CI_send (CI_far (CI_up a4 (by omega) (Or.inr (by omega)) hsp (fun q => by omega) (fun q => by omega) (fun _ => by omega) (fun q => by omega)) hsp (by omega) (by omega) (by omega) (by omega) (by omega)) hsp (by omega) (by omega)
    obtain ⟨f2, f3, f4⟩ := a1.2.2.2.1 p g
    have hmin : min (p + 1) nC = p + 1 := by omega
    generalize hA9 : up (up A (c + 49) p (-1)) (c + 51) p 10000 = A1
    have hS : spS c e p A = sendM A1 c e p (-1) := by unfold spS; rw [hA9]
    have b49 : A1 (c + 49) p = -1 := by rw [← hA9, up_ne (by omega), up_eq]
    have bx : ∀ x, x ≠ c + 49 → x ≠ c + 51 → A1 x = A x := fun x h1 h2 => by rw [← hA9, up_ne h2, up_ne h1]
    have b51 : A1 (c + 51) p = 10000 := by rw [← hA9, up_eq]
    have hk : sendK A1 c e p = goK (up B 535 p 10000) p (-1) := by
      unfold sendK goK
      rw [b49, bx (e + 4) (by omega) (by omega), bx (e + 6 + p) (by omega) (by omega), bx c (by omega) (by omega), f3, ml_of e9]
      have e6 : ∀ n k, nxM (up B 535 p 10000) p n k = nxM B p n k := by
        intro n
        induction n with
        | zero => exact fun k => rfl
        | succ n ih =>
          intro k
          unfold nxM
          rw [ih, up_ne (show (525 : Nat) ≠ 535 by decide)]
          have e7 : mRk (up B 535 p 10000) p k = mRk B p k := by unfold mRk; rw [e9]
          rw [e7]
      rw [e6]
      exact nx_eq a3.1 (fun k hk => ⟨f4 k hk, a5.1.2.2.2.2.2.1 p k (by omega) (by omega)⟩) _ _ (by omega)
    have hu : unitsF A1 c e p = mSz B p * 10000 := by
      unfold unitsF
      rw [b51, bx (e + 3) (by omega) (by omega), f2]
    have hEL : EL (spS c e p A) e (ppS p B) nC nM := EL_of a1 (fun x h1 h2 => by rw [hS, sendM_e (by omega)]; exact bx x (by omega) (by omega)) e509
    have base : ∀ d : Int, EQc c (p + 1) 0 0 (up A1 (c + 48) p d) (up (up B 535 p 10000) 533 p d) := fun d => by
      rw [← hA9]
      exact eq_h (eq_l a2 (pn_l (by omega) (by omega))) rfl
    have hAXf : ∀ (A2 B2 : II), A2 c = A1 c ∨ (∀ k, k = 10 ∨ k = 11 → A2 c k = A1 c k) → (∀ q, B2 525 q = B 525 q ∧ B2 532 q = B 532 q) → (∀ q, q < p + 1 → ¬ B2 533 q = -1 → A2 (c + 49) q = B2 534 q ∧ A2 (c + 50) q = B2 536 q) → AX c (p + 1) A2 B2 := fun A2 B2 h1 h2 h3 => by
      have h4 : ∀ k, k = 10 ∨ k = 11 → A2 c k = A c k := fun k hk => by
        have e5 := bx c (by omega) (by omega)
        rcases h1 with h1 | h1
        · rw [h1, e5]
        · rw [h1 k hk, e5]
      exact ⟨fun k hk => by rw [h4 10 (Or.inl rfl), (h2 k).1]; exact a3.1 k hk, fun k hk => by rw [h4 11 (Or.inr rfl), (h2 k).1, (h2 k).2]; exact a3.2.1 k hk, h3⟩
    have o49 : ∀ q, ¬ q = p → A1 (c + 49) q = A (c + 49) q := fun q hq => by rw [← hA9, up_ne (by omega), up_nk hq]
    have o50 : A1 (c + 50) = A (c + 50) := bx _ (by omega) (by omega)
    refine ⟨hEL, ?_, ?_, hA1, hMp, s1, s2, hT, hR⟩
    · rw [hmin, hS, ppS_eq]
      rcases go_cases (p := p) (b := -1) (r := -1) hM1.1 (by omega) (by rw [ml_of e9]; omega) with ⟨d, k, c1, c2, c3, c4, c5, c6, c7⟩ | ⟨k, c1, c2, c3⟩
      · rw [c7]
        rw [ml_of e9] at c2
        have e8 : mRk (up B 535 p 10000) p k = mRk B p k := by unfold mRk; rw [e9]
        rw [e8] at c5
        unfold sendM
        rw [hk, c4, bx (e + 4) (by omega) (by omega), f3, if_pos c2, bx (e + 6 + p) (by omega) (by omega), f4 k c2, c5, Int.toNat_natCast, hu, ms_of e9, up_eq]
        refine eq_upv ?_ (by omega) (by omega) (pr_vt c1) (by rw [bx (c + 47) (by omega) (by omega), a2 _ _ _ _ (pr_vt c1), up_ne (show (531 : Nat) ≠ 535 by decide)])
        have e10 : up (up (up (up B 535 p 10000) 534 p (k : Int)) 536 p (-1)) 533 p (d : Int) = up (up (up (up B 535 p 10000) 533 p (d : Int)) 534 p (k : Int)) 536 p (-1) := by
          rw [up_comm (a := 536) (b := 533) (by decide), up_comm (a := 534) (b := 533) (by decide)]
        rw [e10]
        exact eq_r (eq_r (eq_l (eq_l (base d) (pn_l (by omega) (by omega))) (pn_l (by omega) (by omega))) (pn_r (by omega))) (pn_r (by omega))
      · rw [c3]
        rw [ml_of e9] at c1
        unfold sendM
        rw [hk, c2, bx (e + 4) (by omega) (by omega), f3, if_neg (by omega), hu, ms_of e9, up_eq]
        refine eq_upv ?_ (by omega) (by omega) pr_ex (by rw [bx c (by omega) (by omega), a2 _ _ _ _ pr_ex, up_ne (show (508 : Nat) ≠ 535 by decide)])
        have e10 : up (up (up (up B 535 p 10000) 534 p (k : Int)) 536 p (-1)) 533 p (-1) = up (up (up (up B 535 p 10000) 533 p (-1)) 534 p (k : Int)) 536 p (-1) := by
          rw [up_comm (a := 536) (b := 533) (by decide), up_comm (a := 534) (b := 533) (by decide)]
        rw [e10]
        exact eq_r (eq_r (base (-1)) (pn_r (by omega))) (pn_r (by omega))
    · rw [hmin, hS]
      refine hAXf _ _ (Or.inr fun k hk9 => sendM_f (by omega)) (fun q => ⟨by rw [e525], by rw [e532]⟩) fun q hq hn => ?_
      rw [ppS_eq] at hn ⊢
      rcases go_cases (p := p) (b := -1) (r := -1) hM1.1 (by omega) (by rw [ml_of e9]; omega) with ⟨d, k, c1, c2, c3, c4, c5, c6, c7⟩ | ⟨k, c1, c2, c3⟩
      · rw [c7] at hn ⊢
        rw [ml_of e9] at c2
        unfold sendM
        rw [hk, c4, bx (e + 4) (by omega) (by omega), f3, if_pos c2]
        by_cases g2 : q = p
        · subst g2
          (repeat (first | rw [up_eq] | rw [up_ne (by omega)]))
          exact ⟨rfl, rfl⟩
        · rw [up_ne (by omega), up_nk g2, up_ne (by omega), up_ne (by omega), up_ne (by omega)] at hn
          (repeat (first | rw [up_nk g2] | rw [up_ne (by omega)]))
          rw [o49 q g2, o50]
          exact a3.2.2 q (by omega) hn
      · rw [c3] at hn ⊢
        rw [ml_of e9] at c1
        have g2 : ¬ q = p := fun g2 => by
          rw [g2, up_ne (by decide), up_eq] at hn
          exact hn rfl
        rw [up_ne (by omega), up_nk g2, up_ne (by omega), up_ne (by omega), up_ne (by omega)] at hn
        unfold sendM
        rw [hk, c2, bx (e + 4) (by omega) (by omega), f3, if_neg (by omega)]
        (repeat (first | rw [up_nk g2] | rw [up_ne (by omega)]))
        rw [o49 q g2, o50]
        exact a3.2.2 q (by omega) hn
  · rw [if_neg g]
    have hz := a1.2.2.2.2.1 p (by omega) hp
    have hmin : min (p + 1) nC = min p nC := by omega
    have hpn : ∀ (b : Nat), b = 533 ∨ b = 535 → ∀ a k, ¬ PRc c (min p nC) 0 0 a k b p := fun b hb a k h => by
      unfold PRc at h
      rcases h with h | h | h | h | h | h | h | h | h <;> omega
    refine ⟨EL_of a1 (fun x _ _ => rfl) e509, ?_, ?_, a4, hMp, s1, s2, hT, hR⟩
    · rw [hmin, ppS_eq]
      rcases go_cases (p := p) (b := -1) (r := -1) hM1.1 (by omega) (by rw [ml_of e9]; omega) with ⟨d, k, c1, c2, c3, c4, c5, c6, c7⟩ | ⟨k, c1, c2, c3⟩
      · rw [c7, ms_of e9, hz, Int.zero_mul, Int.add_zero, wr_id (hM1.2 531 d)]
        rw [up_same (J := up (up (up (up B 535 p 10000) 534 p (k : Int)) 536 p (-1)) 533 p (d : Int)) (by (repeat rw [up_ne (by decide)]))]
        exact eq_r (eq_r (eq_r (eq_r a2 (hpn 535 (Or.inr rfl))) (pn_r (by omega))) (pn_r (by omega))) (hpn 533 (Or.inl rfl))
      · rw [c3, ms_of e9, hz, Int.zero_mul, Int.add_zero, wr_id (hM1.2 508 39)]
        rw [up_same (J := up (up (up (up B 535 p 10000) 534 p (k : Int)) 536 p (-1)) 533 p (-1)) (by (repeat rw [up_ne (by decide)]))]
        exact eq_r (eq_r (eq_r (eq_r a2 (hpn 535 (Or.inr rfl))) (pn_r (by omega))) (pn_r (by omega))) (hpn 533 (Or.inl rfl))
    · rw [hmin]
      refine ⟨fun k hk => by rw [e525]; exact a3.1 k hk, fun k hk => by rw [e525, e532]; exact a3.2.1 k hk, fun q hq hn => ?_⟩
      have g2 : ¬ q = p := by omega
      rw [ppS_eq] at hn ⊢
      rcases go_cases (p := p) (b := -1) (r := -1) hM1.1 (by omega) (by rw [ml_of e9]; omega) with ⟨d, k, c1, c2, c3, c4, c5, c6, c7⟩ | ⟨k, c1, c2, c3⟩
      · rw [c7] at hn ⊢
        rw [up_ne (by omega), up_nk g2, up_ne (by omega), up_ne (by omega), up_ne (by omega)] at hn
        (repeat (first | rw [up_nk g2] | rw [up_ne (by omega)]))
        exact a3.2.2 q hq hn
      · rw [c3] at hn ⊢
        rw [up_ne (by omega), up_nk g2, up_ne (by omega), up_ne (by omega), up_ne (by omega)] at hn
        (repeat (first | rw [up_nk g2] | rw [up_ne (by omega)]))
        exact a3.2.2 q hq hn
