/-! SIMULATION: the model's numbers -/
def psM (J : II) (q : Int) : Nat → Int
  | 0 => 0
  | p + 1 => psM J q p + if J 533 p = q then mSz J p * J 535 p else 0
theorem ps_of {J K : II} {q : Int} : ∀ n, (∀ p, p < n → K 533 p = J 533 p ∧ mSz K p * K 535 p = mSz J p * J 535 p) → psM K q n = psM J q n
  | 0, _ => rfl
  | n + 1, h => by
    unfold psM
    rw [ps_of n (fun p hp => h p (by omega)), (h n (by omega)).1, (h n (by omega)).2]
theorem ps_set {J K : II} {p : Nat} {q : Int} : ∀ n, p < n → (∀ i, i < n → ¬ i = p → K 533 i = J 533 i ∧ mSz K i * K 535 i = mSz J i * J 535 i) → psM K q n = psM J q n - (if J 533 p = q then mSz J p * J 535 p else 0) + (if K 533 p = q then mSz K p * K 535 p else 0)
  | 0, h, _ => by omega
  | n + 1, h, hs => by
    unfold psM
    by_cases e : p = n
    · subst e
      rw [ps_of p (fun i hi => hs i (by omega) (by omega))]
      omega
    · rw [ps_set n (by omega) (fun i hi => hs i (by omega)), (hs n (by omega) (fun g => e g.symm)).1, (hs n (by omega) (fun g => e g.symm)).2]
      omega
theorem sumTo_same {f g : Nat → Int} : ∀ n, (∀ i, i < n → g i = f i) → sumTo g n = sumTo f n
  | 0, _ => rfl
  | n + 1, h => by
    show sumTo g n + g n = sumTo f n + f n
    rw [sumTo_same n (fun i hi => h i (by omega)), h n (by omega)]
theorem sumTo_nn {f : Nat → Int} : ∀ n, (∀ i, i < n → 0 ≤ f i) → 0 ≤ sumTo f n
  | 0, _ => Int.le_refl _
  | n + 1, h => by
    have h1 := sumTo_nn n (fun i hi => h i (by omega))
    have h2 := h n (by omega)
    show 0 ≤ sumTo f n + f n
    omega
theorem sumTo_set {f g : Nat → Int} {d : Nat} : ∀ n, d < n → (∀ i, i < n → ¬ i = d → g i = f i) → sumTo g n = sumTo f n - f d + g d
  | 0, h, _ => by omega
  | n + 1, h, hs => by
    show sumTo g n + g n = sumTo f n + f n - f d + g d
    by_cases e : d = n
    · subst e
      have : sumTo g d = sumTo f d := sumTo_same d (fun i hi => hs i (by omega) (by omega))
      omega
    · rw [sumTo_set n (by omega) (fun i hi => hs i (by omega)), hs n (by omega) (fun g => e g.symm)]
      omega
theorem sumTo_ge {f : Nat → Int} {d : Nat} : ∀ n, d < n → (∀ i, i < n → 0 ≤ f i) → f d ≤ sumTo f n ∧ 0 ≤ sumTo f n
  | 0, h, _ => by omega
  | n + 1, h, hs => by
    have hn := hs n (by omega)
    show f d ≤ sumTo f n + f n ∧ 0 ≤ sumTo f n + f n
    by_cases e : d = n
    · subst e
      have := sumTo_nn d (fun i hi => hs i (by omega))
      omega
    · have := sumTo_ge (d := d) n (by omega) (fun i hi => hs i (by omega))
      omega
def VA (J : II) (nM : Nat) : Prop :=
  (∀ p, p < nM → 0 ≤ J 535 p ∧ J 535 p ≤ 10000) ∧ (∀ p, p < nM → -1 ≤ J 533 p ∧ J 533 p < 8 ∧ (¬ J 533 p = -1 → 0 ≤ J 534 p ∧ J 534 p < mLn J p)) ∧ (∀ q : Nat, q < 8 → (0 ≤ J 525 q ∧ J 525 q ≤ 3) ∧ (J 509 0 ≤ (q : Int) → J 525 q = 3) ∧ (¬ J 525 q = 1 → J 532 q = 0) ∧ 0 ≤ J 531 q) ∧ 0 ≤ J 508 39 ∧ 0 ≤ J 508 40
def VQ (J : II) (nM x : Nat) : Prop := ∀ q : Nat, q < 8 → ¬ q = x → (J 525 q = 0 ∨ (J 525 q = 1 ∧ J 532 q = 0)) → J 531 q = psM J q nM
def tot (J : II) : Int := sumTo (J 531) 8 + J 508 39 + J 508 40
theorem un_b {s w : Int} (hs : 0 ≤ s ∧ s ≤ 99) (hw : 0 ≤ w ∧ w ≤ 10000) : 0 ≤ s * w ∧ s * w ≤ 990000 := by
  refine ⟨Int.mul_nonneg hs.1 hw.1, ?_⟩
  have h1 : s * w ≤ 99 * w := Int.mul_le_mul_of_nonneg_right hs.2 hw.1
  omega
theorem ps_b {J : II} {q : Int} (hW : WfM J) : ∀ n, n ≤ 25 → (∀ p, p < n → 0 ≤ J 535 p ∧ J 535 p ≤ 10000) → 0 ≤ psM J q n ∧ psM J q n ≤ 990000 * n
  | 0, _, _ => by
    show 0 ≤ (0 : Int) ∧ (0 : Int) ≤ 990000 * ((0 : Nat) : Int)
    decide
  | n + 1, hn, h => by
    have ih := ps_b (q := q) hW n (by omega) (fun p hp => h p (by omega))
    have h1 := un_b (hW.2.2.2.1 n (by omega)) (h n (by omega))
    unfold psM
    split <;> omega
theorem ms_of {J K : II} (h : K 509 = J 509) (p : Nat) : mSz K p = mSz J p := by unfold mSz; rw [h]
theorem ml_of {J K : II} (h : K 509 = J 509) (p : Nat) : mLn K p = mLn J p := by unfold mLn; rw [h]
/-- a pile goes on: what becomes of the numbers -/
theorem go_val {J : II} {p nM x : Nat} {b r : Int} (hM : MI J) (hn : nM ≤ 25) (hp : p < nM) (hA : VA J nM) (hV : VQ J nM x) (hx : x < 8) (hh : J 533 p = (x : Int)) (hst : ¬ J 525 x = 0) (hb : b = J 534 p) (hT : tot J ≤ 60000000) (hr : -1 ≤ r) :
    VA (goM J p b r) nM ∧ VQ (goM J p b r) nM x ∧ tot (goM J p b r) = tot J + mSz J p * J 535 p ∧ psM (goM J p b r) x nM = psM J x nM - mSz J p * J 535 p ∧ ¬ goM J p b r 533 p = (x : Int) := by
  obtain ⟨v1, v2, v3, v4, v5⟩ := hA
  obtain ⟨h1, h2, h3⟩ := v2 p hp
  have h4 := h3 (by omega)
  have hw4 := hM.1.2.2.2.2.1 p (by omega)
  have hu := un_b (hM.1.2.2.2.1 p (by omega)) (v1 p hp)
  rcases go_cases (p := p) (b := b) (r := r) hM.1 (by omega) (by omega) with ⟨d, k, c1, c2, c3, c4, c5, c6, c7⟩ | ⟨k, c1, c2, c3⟩
  · have hdx : ¬ d = x := fun e => hst (e ▸ c6)
    have e531 : J 531 d = psM J d nM := hV d c1 hdx (Or.inl c6)
    have hps := ps_b (q := (d : Int)) hM.1 nM hn v1
    have hz : wr (J 531 d + mSz J p * J 535 p) = J 531 d + mSz J p * J 535 p := wr_id (by omega)
    rw [hz] at c7
    rw [c7]
    generalize hK : up (up (up (up J 534 p (k : Int)) 536 p r) 533 p (d : Int)) 531 d (J 531 d + mSz J p * J 535 p) = K
    have k509 : K 509 = J 509 := by rw [← hK, up_ne (by omega), up_ne (by omega), up_ne (by omega), up_ne (by omega)]
    have k525 : K 525 = J 525 := by rw [← hK, up_ne (by omega), up_ne (by omega), up_ne (by omega), up_ne (by omega)]
    have k532 : K 532 = J 532 := by rw [← hK, up_ne (by omega), up_ne (by omega), up_ne (by omega), up_ne (by omega)]
    have k508 : K 508 = J 508 := by rw [← hK, up_ne (by omega), up_ne (by omega), up_ne (by omega), up_ne (by omega)]
    have k535 : K 535 = J 535 := by rw [← hK, up_ne (by omega), up_ne (by omega), up_ne (by omega), up_ne (by omega)]
    have k533 : ∀ i, ¬ i = p → K 533 i = J 533 i := fun i hi => by rw [← hK, up_ne (by omega), up_nk hi, up_ne (by omega), up_ne (by omega)]
    have k533p : K 533 p = (d : Int) := by rw [← hK, up_ne (by omega), up_eq]
    have k534 : ∀ i, ¬ i = p → K 534 i = J 534 i := fun i hi => by rw [← hK, up_ne (by omega), up_ne (by omega), up_ne (by omega), up_nk hi]
    have k534p : K 534 p = (k : Int) := by rw [← hK, up_ne (by omega), up_ne (by omega), up_ne (by omega), up_eq]
    have k531 : ∀ i, ¬ i = d → K 531 i = J 531 i := fun i hi => by rw [← hK, up_nk hi, up_ne (by omega), up_ne (by omega), up_ne (by omega)]
    have k531d : K 531 d = J 531 d + mSz J p * J 535 p := by rw [← hK, up_eq]
    have kps : ∀ q : Int, psM K q nM = psM J q nM - (if J 533 p = q then mSz J p * J 535 p else 0) + (if (d : Int) = q then mSz J p * J 535 p else 0) := fun q => by
      have := ps_set (J := J) (K := K) (q := q) nM hp (fun i hi hne => ⟨k533 i hne, by rw [ms_of k509, k535]⟩)
      rw [k533p, ms_of k509, k535] at this
      exact this
    refine ⟨⟨fun i hi => by rw [k535]; exact v1 i hi, fun i hi => ?_, fun q hq => ?_, by rw [k508]; exact v4, by rw [k508]; exact v5⟩, fun q hq hne hs => ?_, ?_, ?_, ?_⟩
    · rw [ml_of k509]
      by_cases e : i = p
      · subst e
        rw [k533p, k534p]
        exact ⟨by omega, by omega, fun _ => by omega⟩
      · rw [k533 i e, k534 i e]
        exact v2 i hi
    · rw [k525, k532, k509]
      obtain ⟨z1, z2, z3, z4⟩ := v3 q hq
      refine ⟨z1, z2, z3, ?_⟩
      by_cases e : q = d
      · subst e
        rw [k531d]; omega
      · rw [k531 q e]; exact z4
    · rw [k525, k532] at hs
      rw [kps q, hh, if_neg (by omega)]
      by_cases e : q = d
      · subst e
        rw [if_pos rfl, k531d, e531]; omega
      · rw [if_neg (by omega), k531 q e, hV q hq hne hs]; omega
    · unfold tot
      rw [k508, sumTo_set (f := J 531) (g := K 531) 8 c1 (fun i _ hi => k531 i hi), k531d]
      omega
    · rw [kps x, hh, if_pos rfl, if_neg (by omega)]; omega
    · rw [k533p]; omega
  · have hexh : J 508 39 ≤ tot J := by
      have := (sumTo_ge (f := J 531) (d := 0) 8 (by omega) (fun i hi => (v3 i hi).2.2.2)).2
      unfold tot; omega
    have hz : wr (J 508 39 + mSz J p * J 535 p) = J 508 39 + mSz J p * J 535 p := wr_id (by omega)
    rw [hz] at c3
    rw [c3]
    generalize hK : up (up (up (up J 534 p (k : Int)) 536 p r) 533 p (-1)) 508 39 (J 508 39 + mSz J p * J 535 p) = K
    have k509 : K 509 = J 509 := by rw [← hK, up_ne (by omega), up_ne (by omega), up_ne (by omega), up_ne (by omega)]
    have k525 : K 525 = J 525 := by rw [← hK, up_ne (by omega), up_ne (by omega), up_ne (by omega), up_ne (by omega)]
    have k532 : K 532 = J 532 := by rw [← hK, up_ne (by omega), up_ne (by omega), up_ne (by omega), up_ne (by omega)]
    have k531 : K 531 = J 531 := by rw [← hK, up_ne (by omega), up_ne (by omega), up_ne (by omega), up_ne (by omega)]
    have k535 : K 535 = J 535 := by rw [← hK, up_ne (by omega), up_ne (by omega), up_ne (by omega), up_ne (by omega)]
    have k39 : K 508 39 = J 508 39 + mSz J p * J 535 p := by rw [← hK, up_eq]
    have k40 : K 508 40 = J 508 40 := by rw [← hK, up_nk (by omega), up_ne (by omega), up_ne (by omega), up_ne (by omega)]
    have k533 : ∀ i, ¬ i = p → K 533 i = J 533 i := fun i hi => by rw [← hK, up_ne (by omega), up_nk hi, up_ne (by omega), up_ne (by omega)]
    have k533p : K 533 p = -1 := by rw [← hK, up_ne (by omega), up_eq]
    have k534 : ∀ i, ¬ i = p → K 534 i = J 534 i := fun i hi => by rw [← hK, up_ne (by omega), up_ne (by omega), up_ne (by omega), up_nk hi]
    have kps : ∀ q : Nat, psM K q nM = psM J q nM - (if J 533 p = (q : Int) then mSz J p * J 535 p else 0) := fun q => by
      have := ps_set (J := J) (K := K) (q := (q : Int)) nM hp (fun i hi hne => ⟨k533 i hne, by rw [ms_of k509, k535]⟩)
      rw [k533p, if_neg (show ¬ (-1 : Int) = (q : Int) by omega)] at this
      omega
    refine ⟨⟨fun i hi => by rw [k535]; exact v1 i hi, fun i hi => ?_, fun q hq => by rw [k525, k532, k509, k531]; exact v3 q hq, by rw [k39]; omega, by rw [k40]; exact v5⟩, fun q hq hne hs => ?_, ?_, ?_, ?_⟩
    · rw [ml_of k509]
      by_cases e : i = p
      · subst e
        rw [k533p]
        exact ⟨by omega, by omega, fun g => (g rfl).elim⟩
      · rw [k533 i e, k534 i e]
        exact v2 i hi
    · rw [k525, k532] at hs
      rw [kps q, hh, if_neg (by omega), k531, hV q hq hne hs]; omega
    · unfold tot
      rw [k531, k39, k40]; omega
    · rw [kps x, hh, if_pos rfl]
    · rw [k533p]; omega
