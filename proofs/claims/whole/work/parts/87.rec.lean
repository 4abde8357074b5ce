/-! CALLS: recount -/
theorem os_ds {K : II} {f h : Nat → Int} : ∀ n, n ≤ 8 → (∀ c, c < n → f c = K 525 c) → (∀ c, c < n → h c = K 538 c) → osF f h n = dsM K n
  | 0, _, _, _ => rfl
  | n + 1, hn, hf, hh => by
    unfold osF dsM
    rw [hf n (by omega), hh n (by omega), os_ds n (by omega) (fun c hc => hf c (by omega)) (fun c hc => hh c (by omega))]
    split
    · omega
    · rfl
theorem df_dw {K : II} {f h : Nat → Int} {m : Nat} : ∀ n k, k + n = m → (∀ c, c < m → f c = K 530 c) → (∀ c, c < m → h c = K 539 c) → dfF f h n k = dwM K n k
  | 0, _, _, _, _ => rfl
  | n + 1, k, hk, hf, hh => by
    unfold dfF dwM
    rw [hf k (by omega), hh k (by omega), df_dw n (k + 1) (by omega) hf hh]
theorem df_lt {f h : Nat → Int} {m : Nat} : ∀ n k, k + n = m → (dfF f h n k < m ↔ ∃ c, k ≤ c ∧ c < m ∧ ¬ f c = h c)
  | 0, k, hk => by
    show k < m ↔ _
    constructor
    · intro h9; omega
    · rintro ⟨c, h1, h2, _⟩; omega
  | n + 1, k, hk => by
    unfold dfF
    split
    · rename_i he
      rw [df_lt n (k + 1) (by omega)]
      constructor
      · rintro ⟨c, h1, h2, h3⟩; exact ⟨c, by omega, h2, h3⟩
      · rintro ⟨c, h1, h2, h3⟩
        refine ⟨c, ?_, h2, h3⟩
        by_cases hck : c = k
        · subst hck; exact absurd he h3
        · omega
    · rename_i he
      constructor
      · intro _; exact ⟨k, by omega, by omega, he⟩
      · intro _; omega
theorem dr_skip {J : II} : ∀ j f k, (∀ c, c < j → J 515 (k + c) = J 537 (k + c)) → drM J (f + j) k = drM J f (k + j)
  | 0, _, _, _ => rfl
  | j + 1, f, k, h => by
    have h0 := h 0 (by omega)
    rw [Nat.add_zero] at h0
    show (if J 515 k = J 537 k then drM J (f + j) (k + 1) else ((k / 8 : Nat) : Int)) = _
    rw [if_pos h0, dr_skip j f (k + 1) (fun c hc => by have := h (c + 1) (by omega); rw [show k + 1 + c = k + (c + 1) by omega]; exact this)]
    rw [show k + 1 + j = k + (j + 1) by omega]
theorem dr_hit {J : II} {k : Nat} (h : ¬ J 515 k = J 537 k) (f : Nat) : drM J (f + 1) k = ((k / 8 : Nat) : Int) := by
  show (if J 515 k = J 537 k then drM J f (k + 1) else ((k / 8 : Nat) : Int)) = _
  rw [if_neg h]
theorem first_ne {P : Nat → Prop} : ∀ n, (∃ c, c < n ∧ ¬ P c) → ∃ c, c < n ∧ ¬ P c ∧ ∀ d, d < c → P d
  | 0, ⟨c, h, _⟩ => by omega
  | n + 1, ⟨c, h, hc⟩ => by
    by_cases h2 : ∃ d, d < n ∧ ¬ P d
    · obtain ⟨d, h3, h4, h5⟩ := first_ne n h2
      exact ⟨d, by omega, h4, h5⟩
    · refine ⟨c, h, hc, fun d hd => ?_⟩
      by_cases h6 : P d
      · exact h6
      · exact absurd ⟨d, by omega, h6⟩ h2
theorem dr_eq {J : II} {K : II} {r o n m : Nat} (hn : n ≤ 8) (hf : ∀ i c, i < m → c < 8 → J (r + 4 + i) c = K 515 (8 * i + c)) (hh : ∀ i c, i < m → c < 8 → J (o + 4 + i) c = K 537 (8 * i + c)) (hz : ∀ i c, i < m → c < 8 → n ≤ c → K 515 (8 * i + c) = K 537 (8 * i + c)) :
    ∀ f k, k + f = m → (drF J r o n f k < m → drM K (8 * f) (8 * k) = ((drF J r o n f k : Nat) : Int)) ∧ (¬ drF J r o n f k < m → drF J r o n f k = m ∧ drM K (8 * f) (8 * k) = drM K 0 (8 * m))
  | 0, k, hk => by
    have : k = m := by omega
    subst this
    exact ⟨fun h => absurd h (Nat.lt_irrefl _), fun _ => ⟨rfl, rfl⟩⟩
  | f + 1, k, hk => by
    have hd := df_lt (f := J (r + 4 + k)) (h := J (o + 4 + k)) (m := n) n 0 (by omega)
    unfold drF
    by_cases hc : dfF (J (r + 4 + k)) (J (o + 4 + k)) n 0 < n
    · rw [if_pos hc]
      refine ⟨fun _ => ?_, fun h => absurd (show k < m by omega) h⟩
      obtain ⟨c, _, hcn, hcd⟩ := hd.mp hc
      rw [hf k c (by omega) (by omega), hh k c (by omega) (by omega)] at hcd
      obtain ⟨d, h1, h2, h3⟩ := first_ne (P := fun c => K 515 (8 * k + c) = K 537 (8 * k + c)) 8 ⟨c, by omega, hcd⟩
      rw [show 8 * (f + 1) = (8 * f + (7 - d) + 1) + d by omega, dr_skip d _ (8 * k) h3, dr_hit h2]
      congr 1
      omega
    · rw [if_neg hc]
      have he : ∀ c, c < 8 → K 515 (8 * k + c) = K 537 (8 * k + c) := by
        intro c h8
        by_cases hcn : c < n
        · rw [← hf k c (by omega) h8, ← hh k c (by omega) h8]
          by_cases h9 : J (r + 4 + k) c = J (o + 4 + k) c
          · exact h9
          · exact absurd (hd.mpr ⟨c, by omega, hcn, h9⟩) hc
        · exact hz k c (by omega) h8 (by omega)
      rw [show 8 * (f + 1) = 8 * f + 8 by omega, dr_skip 8 _ (8 * k) he, show 8 * k + 8 = 8 * (k + 1) by omega]
      exact dr_eq hn hf hh hz f (k + 1) (by omega)
theorem mn_nat (a b : Nat) : (mnI (a : Int) (b : Int)).toNat = min a b := by
  unfold mnI
  split <;> omega
theorem s_recount {I : II} {sl : Nat → Nat} {u : Int} (h : IV I sl) : IV (rcR I u).2 sl ∧ ∃ K1, (tRc (rcR I u).2 u = 0 → ∃ K, knO (up (rcR I u).2 508 6 0) = some K ∧ KO1 K ∧ DO K ∧ K = K1) ∧ IV (if tRc (rcR I u).2 u ≤ 0 then (rcM K1 u, K1) else (0, up (rcR I u).2 508 6 (tRc (rcR I u).2 u))).2 sl ∧ OK2 IAE ISE (rcR I u) (if tRc (rcR I u).2 u ≤ 0 then (rcM K1 u, K1) else (0, up (rcR I u).2 508 6 (tRc (rcR I u).2 u))).1 (if tRc (rcR I u).2 u ≤ 0 then (rcM K1 u, K1) else (0, up (rcR I u).2 508 6 (tRc (rcR I u).2 u))).2 := by
  obtain ⟨m, hm, hE⟩ := id h.2.2.2.2.2.1
  have hf4 := h.2.2.2.2.1.2.2.1
  have hk11 := h.1.2.2.2.2.2.2.2.2.2.2.1
  by_cases c1 : u < 0 ∨ 2 < u
  · have g1 : inF u 0 2 = 0 := if_neg (by omega)
    have e2 : rcR I u = erI IAE I := if_pos c1
    have ht : tRc I u = 1 := if_pos g1
    rw [e2]
    show IV I sl ∧ ∃ K1, (tRc I u = 0 → ∃ K, knO (up I 508 6 0) = some K ∧ KO1 K ∧ DO K ∧ K = K1) ∧ IV (if tRc I u ≤ 0 then (rcM K1 u, K1) else (0, up I 508 6 (tRc I u))).2 sl ∧ OK2 IAE ISE (erI IAE I) (if tRc I u ≤ 0 then (rcM K1 u, K1) else (0, up I 508 6 (tRc I u))).1 (if tRc I u ≤ 0 then (rcM K1 u, K1) else (0, up I 508 6 (tRc I u))).2
    rw [ht]
    refine ⟨h, I, (fun h => absurd h (by decide)), ?_⟩
    rw [if_neg (by decide)]
    exact ⟨IV_thr h (by omega), by dsimp only; exact OK2_e1 up_eq⟩
  · have g1 : inF u 0 2 = 1 := if_pos (by omega)
    by_cases c2 : I 0 11 = 0
    · have e2 : rcR I u = erI ISE I := by unfold rcR; rw [if_neg c1, if_pos c2]
      have ht : tRc I u = 2 := by unfold tRc; rw [if_neg (by omega), if_pos (by omega)]
      rw [e2]
      show IV I sl ∧ ∃ K1, (tRc I u = 0 → ∃ K, knO (up I 508 6 0) = some K ∧ KO1 K ∧ DO K ∧ K = K1) ∧ IV (if tRc I u ≤ 0 then (rcM K1 u, K1) else (0, up I 508 6 (tRc I u))).2 sl ∧ OK2 IAE ISE (erI ISE I) (if tRc I u ≤ 0 then (rcM K1 u, K1) else (0, up I 508 6 (tRc I u))).1 (if tRc I u ≤ 0 then (rcM K1 u, K1) else (0, up I 508 6 (tRc I u))).2
      rw [ht]
      refine ⟨h, I, (fun h => absurd h (by decide)), ?_⟩
      rw [if_neg (by decide)]
      exact ⟨IV_thr h (by omega), by dsimp only; exact OK2_e2 up_eq⟩
    · obtain ⟨h1, h10, hlo, hhi⟩ := IV_ct h
      have e2 : rcR I u = okI (if u = 0 then osF (ctM I (95 + 2)) (ctM I (451 + 2)) (I 1 0).toNat else if u = 1 then fpF (ctM I) 95 451 else frF (ctM I) 95 451 (I 1 0).toNat) (ctM I) := by unfold rcR; rw [if_neg c1, if_neg c2]
      have ht : tRc (ctM I) u = 0 := by unfold tRc; rw [if_neg (by omega), hhi 508 (by omega), if_neg (by omega)]
      rw [e2]
      have h11 : ctM I 0 11 = 1 := by rw [ct_b (by omega)]; omega
      have hn0 : ctM I 1 = I 1 := hlo 1 (by omega) (by omega)
      rw [← hn0]
      generalize ctM I = J at *
      show IV J sl ∧ ∃ K1, (tRc J u = 0 → ∃ K, knO (up J 508 6 0) = some K ∧ KO1 K ∧ DO K ∧ K = K1) ∧ IV (if tRc J u ≤ 0 then (rcM K1 u, K1) else (0, up J 508 6 (tRc J u))).2 sl ∧ OK2 IAE ISE _ (if tRc J u ≤ 0 then (rcM K1 u, K1) else (0, up J 508 6 (tRc J u))).1 (if tRc J u ≤ 0 then (rcM K1 u, K1) else (0, up J 508 6 (tRc J u))).2
      rw [ht]
      obtain ⟨K, n, w, R, hK, hIV, hR, hx, h0⟩ := IV_q (IV_thr (t := 0) h1 (by omega)) (by rw [up_ne (by omega)]; exact h10)
      have hx2 : ∀ x, x < 508 → K x = J x := fun x hxx => (hx x hxx).trans (up_ne (by omega))
      have h6 : K 508 6 = 0 := by
        obtain ⟨K', hK', _, _, _, _, hf⟩ := IV_kn (IV_thr (t := 0) h1 (by omega))
        rw [hK] at hK'
        cases hK'
        rw [hf 6 (by omega) (by omega) (by omega) (by omega) (by omega) (by omega) (by omega)]
        exact up_eq
      have hdr := hIV.2.2.2.2.2.2.2.2.1 (by rw [hx2 0 (by omega)]; exact h11)
      have hrg := DR_rng hIV.1 hdr
      refine ⟨h1, K, fun _ => ⟨K, hK, (hR.ko hIV.mi).1, hrg, rfl⟩, ?_⟩
      rw [if_pos (Int.le_refl 0)]
      refine ⟨hIV, OK2_ok h6 ?_⟩
      obtain ⟨a1, a2, a3, a4, a5, a6, a7, a8, a9, a10, a11, a12, a13, a14⟩ := hR
      obtain ⟨d0, d1, d2, d3, d4, d5⟩ := hdr
      have w0 := hIV.mi.1.1
      have en : J 1 0 = K 509 0 := by rw [← hx2 1 (by omega)]; exact h0
      obtain ⟨R2, hR2⟩ := Int.eq_ofNat_of_zero_le hrg.1.1
      obtain ⟨W2, hW2⟩ := Int.eq_ofNat_of_zero_le hrg.2.1
      have hJ95 : J 95 = K 95 := (hx2 95 (by omega)).symm
      have hJ451 : J 451 = K 451 := (hx2 451 (by omega)).symm
      show (if u = 0 then osF (J (95 + 2)) (J (451 + 2)) (J 1 0).toNat else if u = 1 then fpF J 95 451 else frF J 95 451 (J 1 0).toNat) = rcM K u
      unfold rcM
      by_cases u0 : u = 0
      · rw [if_pos u0, if_pos u0, en]
        refine os_ds _ (by omega) (fun c hc => ?_) (fun c hc => ?_)
        · rw [← hx2 _ (by omega)]; exact a10 (94 + 3) c 525 c (pr_st (by omega)) (by omega)
        · rw [← hx2 _ (by omega)]; exact d4 c (by omega)
      · rw [if_neg u0, if_neg u0]
        by_cases u1 : u = 1
        · rw [if_pos u1, if_pos u1]
          unfold fpF dwA
          have hb : bwM K = min w W2 := by unfold bwM; rw [a7, hW2]; exact mn_nat w W2
          have hmn : mnI (J 95 1) (J 451 1) = ((min w W2 : Nat) : Int) := by
            rw [hJ95, hJ451, a6, d2, hW2]
            unfold mnI
            split <;> omega
          have e3 : dfF (J (95 + 1)) (J (451 + 1)) (min w W2) 0 = dwM K (min w W2) 0 := df_dw (m := min w W2) _ 0 (by omega) (fun c hc => by rw [← hx2 _ (by omega)]; exact a10 (94 + 2) c 530 c (pr_or (by omega)) (by omega)) (fun c hc => by rw [← hx2 _ (by omega)]; exact d5 c (by omega))
          rw [hmn, hb, show ((min w W2 : Nat) : Int).toNat = min w W2 from rfl, e3]
          have hle := dw_le K (min w W2) 0
          by_cases g1 : dwM K (min w W2) 0 < min w W2
          · rw [if_pos g1, if_pos (Or.inl g1)]
          · rw [if_neg g1, hJ95, hJ451, a6, d2, a7]
            by_cases g2 : (w : Int) = K 508 45
            · rw [if_pos g2, if_neg (by omega)]
            · rw [if_neg g2, if_pos (Or.inr g2)]
              omega
        · rw [if_neg u1, if_neg u1]
          unfold frF
          have hb : brM K = min R R2 := by unfold brM; rw [a5, hR2]; exact mn_nat R R2
          have hmn : mnI (J 95 0) (J 451 0) = ((min R R2 : Nat) : Int) := by
            rw [hJ95, hJ451, a4, d1, hR2]
            unfold mnI
            split <;> omega
          have e3 := dr_eq (J := J) (K := K) (r := 95) (o := 451) (n := (J 1 0).toNat) (m := min R R2) (by omega)
            (fun i c hi hc => by
              rw [← hx2 _ (by omega), show 95 + 4 + i = 94 + 5 + i by omega]
              exact a10 (94 + 5 + i) c 515 (8 * i + c) (pr_vr (by omega) hc) (by omega))
            (fun i c hi hc => by rw [← hx2 _ (by omega)]; exact d3 i c (by omega) hc)
            (fun i c hi hc hnc => by
              rw [a14 i c (by omega) hc (by omega), d0 i c (by omega) hc (by rw [h0]; omega)])
            (min R R2) 0 (by omega)
          rw [hmn, hb, show ((min R R2 : Nat) : Int).toNat = min R R2 from rfl]
          by_cases g1 : drF J 95 451 (J 1 0).toNat (min R R2) 0 < min R R2
          · rw [if_pos g1]
            exact (e3.1 g1).symm
          · rw [if_neg g1, (e3.2 g1).2]
            show _ = if K 508 15 = K 508 44 then -1 else (brM K : Int)
            rw [hJ95, hJ451, a4, d1, a5, hb]
