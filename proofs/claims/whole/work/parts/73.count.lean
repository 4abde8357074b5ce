/-! SIMULATION: the count -/
theorem sp_11 {I X : II} {c e : Nat} : ∀ k, foldUp (spS c e) X k c 11 = X c 11 ∧ foldUp (spS c e) X k c 12 = X c 12
  | 0 => by rw [fold_0]; exact ⟨rfl, rfl⟩
  | k + 1 => by
    obtain ⟨a, b⟩ := sp_11 (I := I) (X := X) (c := c) (e := e) k
    rw [fold_s]
    unfold spS
    rw [sendM_f (by decide), sendM_f (by decide), up_ne (by omega), up_ne (by omega)]
    exact ⟨a, b⟩
theorem sv_0 {c e nC nM : Nat} {I J : II} (hE : EL I e J nC nM) (hCI : CI I c e) (hM : MI J) (hsp : e + 31 ≤ c) : SV c e nC nM 0 (spI (startCM I c e) c e) (prA J) := by
  have hsc : startCM I c e = foldUp (stS I c e) (scB I c) 8 := rfl
  have hpa : prA J = foldUp (pqS J) (prI J) 8 := rfl
  have hA : ∀ a k, ¬ (a = c ∧ (k = 12 ∨ k = 14 ∨ k = 15)) → spI (startCM I c e) c e a k = startCM I c e a k := fun a k h => by
    unfold spI
    rw [up_o (fun g => h (by omega)), up_o (fun g => h (by omega)), up_o (fun g => h (by omega))]
  have hA14 : spI (startCM I c e) c e c 14 = 0 := by unfold spI; rw [up_nk (by decide), up_eq]
  have hA15 : spI (startCM I c e) c e c 15 = 0 := by unfold spI; rw [up_eq]
  have hB9 : prA J 509 = J 509 := pq_s 8
  obtain ⟨m1, m2, m3⟩ := pq_8 (J := J) 8
  rw [← hpa] at m1 m2 m3
  have hv := fun k (hk : k < 8) => pq_v (J := J) 8 k hk
  rw [← hpa] at hv
  have cv := fun k (hk : k < 8) => sc_v (I := I) (c := c) (e := e) 8 k hk
  rw [← hsc] at cv
  obtain ⟨s1, s2⟩ := sc_11 (I := I) (c := c) (e := e) 8
  rw [← hsc] at s1 s2
  have hsf : ∀ k : Nat, (if standF I e k = 0 then (3 : Int) else 0) = psF J k := fun k => by
    unfold standF psF
    rw [hE.1.1, hE.1.2.1]
    by_cases g : (k : Int) < J 509 0 ∧ btI (J 509 2).toNat k = 0
    · rw [if_pos g, if_neg (by decide), if_neg (fun g2 => by omega)]
    · rw [if_neg g, if_pos rfl, if_pos]
      by_cases g2 : (k : Int) < J 509 0
      · exact Or.inr (fun g3 => g ⟨g2, g3⟩)
      · exact Or.inl (by omega)
  have hMp : MI (prA J) := ⟨WfM_of hM.1 hB9, rg_pr hM.2⟩
  have hCs : CI (spI (startCM I c e) c e) c e := by
    have h1 := CI_sc hCI hsp
    obtain ⟨w0, w1, w2, w3, w4, w5, w6, -⟩ := id h1.1
    obtain ⟨n, hn⟩ := Int.eq_ofNat_of_zero_le w2
    have hs := sumTo_b (f := startCM I c e (e + 3)) (n := n) (fun p hp => w6 p (by omega)) n (Nat.le_refl _)
    unfold spI
    rw [hn]
    refine CI_up (CI_up (CI_up h1 ?_ (Or.inr (by omega)) hsp (fun _ q => by omega) (fun q => by omega) (fun q => by omega) (fun q => by omega)) (by omega) (Or.inr (by omega)) hsp (fun _ q => by omega) (fun q => by omega) (fun q => by omega) (fun q => by omega)) (by omega) (Or.inr (by omega)) hsp (fun _ q => by omega) (fun q => by omega) (fun q => by omega) (fun q => by omega)
    rw [Int.toNat_natCast]
    omega
  refine ⟨EL_of hE (fun x h1 h2 => ?_) hB9, ?_, ⟨fun k hk => ?_, fun k hk => ?_, fun p hp => by omega⟩, hCs, hMp, ⟨fun p hp => by omega, fun p hp => by omega, fun q hq => ?_, by rw [m2]; omega, by rw [m3]; omega⟩, fun q hq _ _ => ?_, ?_, ⟨by rw [m1]; rfl, fun k hk => by omega, fun q hq => ?_⟩⟩
  · funext k
    rw [hA x k (by omega), sc_e (by omega)]
  · rw [show min 0 nC = 0 by omega]
    intro a k b j h
    unfold PRc at h
    rcases h with ⟨hk, rfl, h⟩ | ⟨rfl, rfl, h⟩ | ⟨rfl, rfl, rfl, rfl⟩ | h | h | h | h | h | h
    · obtain ⟨c1, c2, c3, c4, c5⟩ := cv j hk
      obtain ⟨d1, d2, d3, d4, d5, d6, d7⟩ := hv j hk
      rcases h with ⟨rfl, rfl⟩ | ⟨rfl, rfl⟩ | ⟨rfl, rfl⟩ | ⟨rfl, rfl⟩ | ⟨rfl, rfl⟩
      · rw [hA _ _ (by omega), c2, d6]
      · rw [hA _ _ (by omega), c1, d1]; exact hsf j
      · rw [hA _ _ (by omega), c3, d2]
      · rw [hA _ _ (by omega), c4, d4]
      · rw [hA _ _ (by omega), c5, d5]
    · rcases h with ⟨rfl, rfl⟩ | ⟨rfl, rfl⟩
      · rw [hA14, m2]
      · rw [hA15, m3]
    · rw [hA _ _ (by omega), s2, m1]
    · omega
    · omega
    · omega
    · omega
    · omega
    · omega
  · rw [hA _ _ (by omega)]
    have e10 : startCM I c e c 10 = (hopF I e 8 : Int) := stS_h 8
    rw [e10, Int.toNat_natCast, hop_bt (Nat.le_refl _) hk, (hv k hk).1, ← hsf k]
    have h01 : standF I e k = 0 ∨ standF I e k = 1 := by unfold standF; split <;> omega
    by_cases g : standF I e k = 0
    · rw [if_neg (fun g2 => by omega), if_pos g, if_neg (by decide)]
    · rw [if_pos ⟨hk, by omega⟩, if_neg g, if_pos rfl]
  · rw [hA _ _ (by omega), s1, (hv k hk).1, if_neg (fun g => by have := ps_rng J k; omega)]
    exact bt_z k
  · obtain ⟨d1, d2, d3, d4, d5, d6, d7⟩ := hv q hq
    have := ps_rng J q
    rw [d1, d7, d6, hB9]
    refine ⟨by omega, fun g => ?_, fun _ => rfl, Int.le_refl _⟩
    unfold psF
    rw [if_pos (Or.inl g)]
  · rw [(hv q hq).2.2.2.2.2.1]
    rfl
  · unfold tot
    rw [sumTo_z 8 (fun i hi => (hv i hi).2.2.2.2.2.1), m2, m3]
    rfl
  · obtain ⟨d1, d2, d3, d4, d5, d6, d7⟩ := hv q hq
    have := ps_rng J q
    rw [d1, d3]
    exact ⟨fun _ => rfl, fun g => by omega⟩
theorem sv_p {c e nC nM : Nat} {X Y : II} (h : SV c e nC nM 0 X Y) (hsp : e + 31 ≤ c) : ∀ p, p ≤ nM → SV c e nC nM p (foldUp (spS c e) X (min p nC)) (foldUp ppS Y p)
  | 0, _ => by rw [show min 0 nC = 0 by omega, fold_0, fold_0]; exact h
  | p + 1, hp => by
    have ih := sv_p h hsp p (by omega)
    have h2 := sp_sim ih hsp (by omega)
    rw [fold_s]
    by_cases g : p < nC
    · rw [if_pos g] at h2
      rw [show min p nC = p by omega] at h2
      rw [show min (p + 1) nC = p + 1 by omega, fold_s]
      exact h2
    · rw [if_neg g] at h2
      rw [show min (p + 1) nC = min p nC by omega]
      exact h2
/-- a count on both sides: the model's goes well, and the results are the same -/
theorem cnt_sim {c e nC nM : Nat} {I J : II} (hE : EL I e J nC nM) (hCI : CI I c e) (hM : MI J) (hsp : e + 31 ≤ c) : ∃ K, cnO J = some K ∧ RES c e nC nM (runM I c e) K ∧ K 509 = J 509 := by
  have hnn := hE.1
  have h9 := sv_p (sv_0 hE hCI hM hsp) hsp nM (Nat.le_refl _)
  rw [show min nM nC = nC by omega] at h9
  have hsc4 : startCM I c e e = I e := sc_e (by omega)
  have hA : startPM (startCM I c e) c e = foldUp (spS c e) (spI (startCM I c e) c e) nC := by
    unfold startPM
    rw [hsc4, hnn.2.2.1, Int.toNat_natCast]
  have hB : prM J = foldUp ppS (prA J) nM := by
    unfold prM
    rw [hnn.2.2.2.1, Int.toNat_natCast]
  rw [← hA, ← hB] at h9
  obtain ⟨a1, a2, a3, a4, a5, a6, a7, a8, a9⟩ := h9
  rw [show min nM nC = nC by omega] at a2 a3
  have hB9 : prM J 509 = J 509 := pp_s _
  have hmp : mPs (prM J) = sumTo (mSz (prM J)) nM := by
    unfold mPs
    rw [a1.1.2.2.2.1, Int.toNat_natCast]
  have h10 := a4.2.2.1
  have hRR : RR9 c e nC nM 0 0 (startPM (startCM I c e) c e) (prM J) := ⟨a1, a2, a3, a4, a5, a6, a7, by rw [hmp]; exact a8, a9, by have := pop8_le (startPM (startCM I c e) c e c 10).toNat; omega⟩
  obtain ⟨e11, e12⟩ := sp_11 (I := I) (X := spI (startCM I c e) c e) (c := c) (e := e) nC
  rw [← hA] at e11 e12
  have s11 : spI (startCM I c e) c e c 11 = 0 := by
    unfold spI
    rw [up_nk (by decide), up_nk (by decide), up_nk (by decide)]
    exact (sc_11 8).1
  have s12 : spI (startCM I c e) c e c 12 = sumTo (I (e + 3)) nC := by
    unfold spI
    rw [up_nk (by decide), up_nk (by decide), up_eq, hsc4, hnn.2.2.1, Int.toNat_natCast, sc_e (by omega)]
  have hpp : PP c (startPM (startCM I c e) c e) (prM J) := by
    unfold PP
    have ex := sumTo_ext (f := mSz (prM J)) (n := nC) (nM - nC) (fun p h1 h2 => a1.2.2.2.2.1 p h1 (by omega))
    rw [show nC + (nM - nC) = nM by omega] at ex
    rw [e12, s12, hmp, ex]
    exact sumTo_same nC fun i hi => by rw [ms_of hB9]; exact (hE.2.2.2.1 i hi).1
  have hpt : pot (startPM (startCM I c e) c e) c < 9 := by
    unfold pot
    rw [e11, s11]
    have := pop8_le (startPM (startCM I c e) c e c 10).toNat
    have h0 : pop8 (0 : Int).toNat = 0 := by decide
    omega
  have w6 := a5.1.2.2.2.2.2.2.2.2.2.2
  obtain ⟨K, t1, t2, t3⟩ := rd_sim hsp 9 0 0 _ _ (by omega) hRR (pr_15 _) (by omega) hpp hpt
  exact ⟨K, t1, t2, t3.trans hB9⟩
