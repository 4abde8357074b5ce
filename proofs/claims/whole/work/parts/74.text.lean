/-! SIMULATION: the text -/
def TT (I : II) (t : Nat) (J : II) : Prop := TX J ∧ J 508 10 = 0 ∧ TI I t ∧ I t 3 = J 508 9 ∧ I t 4 = J 508 8 ∧ ∀ k, k < 60 → I (t + 1) k = J 513 k
/-- the model has found an error, at z -/
def WR (z : Int) (K : II) : Prop := TX K ∧ K 508 10 = 1 ∧ K 508 9 = z
theorem ch_hr {I J : II} {t : Nat} (h : TT I t J) : (ch I t = hrM J ∧ I t 3 < I t 4) ∨ (ch I t = -1 ∧ hrM J = 0 ∧ ¬ I t 3 < I t 4) := by
  obtain ⟨a1, a2, a3, a4, a5, a6⟩ := h
  have p := a3.1
  unfold ch hrM
  rw [← a4, ← a5]
  by_cases g : I t 3 < I t 4
  · rw [if_pos g, if_pos g]
    exact Or.inl ⟨a6 _ (by omega), g⟩
  · rw [if_neg g, if_neg g]
    exact Or.inr ⟨rfl, rfl, g⟩
theorem TT_inc {I J : II} {t : Nat} (h : TT I t J) (hl : I t 3 < I t 4) : TT (inc I t) t (pcM J) := by
  obtain ⟨a1, a2, a3, a4, a5, a6⟩ := h
  refine ⟨TX_pc a1 (by omega), by rw [pc_f (by decide)]; exact a2, TI_inc a3 hl, ?_, ?_, fun k hk => ?_⟩
  · unfold inc pcM
    rw [up_eq, up_eq, a4]
  · unfold inc
    rw [up_nk (by decide), pc_f (by decide)]; exact a5
  · unfold inc
    rw [up_ne (by omega), pc_s (by decide)]; exact a6 k hk
theorem WR_wg {J : II} {w : Int} (h : TX J) (h0 : J 508 10 = 0) (hw : 0 ≤ w ∧ w ≤ J 508 8) : WR w (wgM J w) := by
  refine ⟨TX_wg h hw, wg_1 h, ?_⟩
  unfold wgM
  rw [if_pos h0, up_eq]
theorem WR_nu {z : Int} {K : II} (h : WR z K) : (nuR K).2 = K := by
  have h1 : ¬ K 508 10 = 0 := by rw [h.2.1]; decide
  unfold nuR
  rw [if_pos (Or.inl h1)]
  exact if_neg h1
theorem WR_wt {z s : Int} {K : II} (h : WR z K) : wtM K s = K := by
  have h1 : ¬ K 508 10 = 0 := by rw [h.2.1]; decide
  have e : wtI K s = K := by
    unfold wtI
    split
    · rfl
    · exact if_neg h1
  unfold wtM
  rw [e, if_neg h1]
theorem WR_rr {z : Int} {K : II} (h : WR z K) : rrO K = some (up K 508 13 0) ∧ WR z (up K 508 13 0) := by
  have h1 : ¬ K 508 10 = 0 := by rw [h.2.1]; decide
  refine ⟨?_, TX_r0 h.1, by rw [up_nk (by decide)]; exact h.2.1, by rw [up_nk (by decide)]; exact h.2.2⟩
  unfold rrO rrL
  rw [if_pos (by rw [up_nk (by decide)]; exact h1)]
theorem fl_5 {I : II} {t : Nat} : fl I t t 5 = I t 3 := up_eq
theorem nb_sim {I J : II} {t : Nat} (h : TT I t J) : ((nbR I t).1 = -1 ∧ WR ((nbR I t).2 t 5) (nuR J).2) ∨ (0 ≤ (nbR I t).1 ∧ (nbR I t).1 = (nuR J).1 ∧ TT (nbR I t).2 t (nuR J).2 ∧ J 508 9 < (nuR J).2 508 9) := by
  have h0 := h
  obtain ⟨a1, a2, a3, a4, a5, a6⟩ := h
  have p := a3.1
  have hc := ch_hr h0
  unfold nbR nuR nbA
  by_cases g1 : ch I t - 48 < 0 ∨ 9 < ch I t - 48
  · rw [if_pos g1, if_pos (show ¬ J 508 10 = 0 ∨ hrM J < 48 ∨ 57 < hrM J by omega)]
    refine Or.inl ⟨rfl, ?_⟩
    show WR (fl I t t 5) (wgM J (J 508 9))
    rw [fl_5, a4]
    exact WR_wg a1 a2 (by omega)
  · rw [if_neg g1, if_neg (show ¬ (¬ J 508 10 = 0 ∨ hrM J < 48 ∨ 57 < hrM J) by omega)]
    have hl : I t 3 < I t 4 := by omega
    have h1 := TT_inc h0 hl
    have hc1 := ch_hr h1
    have e9 : pcM J 508 9 = J 508 9 + 1 := up_eq
    by_cases g2 : ch I t - 48 = 0 ∨ ch (inc I t) t - 48 < 0 ∨ 9 < ch (inc I t) t - 48
    · rw [if_pos g2, if_pos (show hrM J - 48 ≤ 0 ∨ hrM (pcM J) < 48 ∨ 57 < hrM (pcM J) by omega)]
      refine Or.inr ⟨by dsimp only; omega, by dsimp only; omega, h1, by dsimp only; omega⟩
    · rw [if_neg g2, if_neg (show ¬ (hrM J - 48 ≤ 0 ∨ hrM (pcM J) < 48 ∨ 57 < hrM (pcM J)) by omega)]
      have h2 := TT_inc h1 (by omega)
      have e8 : pcM (pcM J) 508 9 = pcM J 508 9 + 1 := up_eq
      refine Or.inr ⟨by dsimp only; omega, by dsimp only; omega, h2, by dsimp only; omega⟩
theorem pa_sim {I J : II} {t : Nat} {s : Int} (h : TT I t J) (hs : 0 < s) : ((paR I t s).1 = 0 ∧ WR ((paR I t s).2 t 5) (wtM J s)) ∨ ((paR I t s).1 = 1 ∧ TT (paR I t s).2 t (wtM J s) ∧ J 508 9 < wtM J s 508 9) := by
  have h0 := h
  obtain ⟨a1, a2, a3, a4, a5, a6⟩ := h
  have p := a3.1
  have hc := ch_hr h0
  unfold paR
  by_cases g : ch I t = s
  · have e : wtM J s = pcM J := by
      have e1 : wtI J s = J := if_pos (by omega)
      unfold wtM
      rw [e1, if_pos a2]
    rw [if_pos g, e]
    exact Or.inr ⟨rfl, TT_inc h0 (by omega), by have : pcM J 508 9 = J 508 9 + 1 := up_eq; omega⟩
  · have hw := WR_wg (w := J 508 9) a1 a2 (by omega)
    have e : wtM J s = wgM J (J 508 9) := by
      have e1 : wtI J s = wgM J (J 508 9) := if_neg (by omega)
      unfold wtM
      rw [e1, if_neg (by rw [hw.2.1]; decide)]
    rw [if_neg g, e]
    refine Or.inl ⟨rfl, ?_⟩
    show WR (fl I t t 5) _
    rw [fl_5, a4]
    exact hw
theorem pn_sim {I J : II} {t e : Nat} (h : TT I t J) (h4 : I e 4 = J 509 1) (h40 : 0 ≤ J 509 1) : ((pnR I t e).1 = -1 ∧ WR ((pnR I t e).2 t 5) (kpR J).2) ∨ (0 ≤ (pnR I t e).1 ∧ (pnR I t e).1 = (kpR J).1 ∧ (pnR I t e).1 < J 509 1 ∧ TT (pnR I t e).2 t (kpR J).2 ∧ J 508 9 < (kpR J).2 508 9) := by
  have h0 := h
  obtain ⟨a1, a2, a3, a4, a5, a6⟩ := h
  have p := a3.1
  unfold pnR kpR
  rw [nu_s (show (509 : Nat) ≠ 508 by decide)]
  rcases nb_sim h0 with ⟨n1, n2⟩ | ⟨n1, n2, n3, n4⟩
  · rw [if_neg (show ¬ I e 4 ≤ (nbR I t).1 by omega), if_neg (show ¬ ((nuR J).2 508 10 = 0 ∧ inF (nuR J).1 0 (J 509 1 - 1) = 0) from fun g => by have := n2.2.1; omega)]
    exact Or.inl ⟨n1, n2⟩
  · have hi := @inF_0 (nuR J).1 0 (J 509 1 - 1)
    by_cases g : I e 4 ≤ (nbR I t).1
    · rw [if_pos g, if_pos ⟨n3.2.1, hi.mpr (by omega)⟩]
      refine Or.inl ⟨rfl, ?_⟩
      show WR (up (nbR I t).2 t 5 (I t 3) t 5) (wgM (nuR J).2 (J 508 9))
      rw [up_eq, a4]
      exact WR_wg n3.1 n3.2.1 (by rw [nu_f (by decide) (by decide)]; omega)
    · rw [if_neg g, if_neg (fun g2 => by have := hi.mp g2.2; omega)]
      exact Or.inr ⟨n1, n2, by omega, n3, n4⟩
/-- the lot wants more -/
def rlX (ls : Int) (C : II) : II := if C 508 10 = 0 ∧ C 508 13 < ls then wgM C (C 508 9) else C
def RKO (t : Nat) (nc ls : Int) (J : II) (R : Int × II) (C : II) : Prop :=
  (R.1 = 0 ∧ WR (R.2 t 5) (wtM (rlX ls C) 59)) ∨ (R.1 = 1 ∧ TT R.2 t (wtM (rlX ls C) 59) ∧ R.2 t 2 = wtM (rlX ls C) 59 508 13 ∧ (1 ≤ wtM (rlX ls C) 59 508 13 ∧ ls ≤ wtM (rlX ls C) 59 508 13 ∧ wtM (rlX ls C) 59 508 13 ≤ nc) ∧ (∀ i : Nat, (i : Int) < wtM (rlX ls C) 59 508 13 → R.2 (t + 2) i = wtM (rlX ls C) 59 514 i) ∧ J 508 9 < wtM (rlX ls C) 59 508 9 ∧ (ls = nc → ∀ c : Nat, (c : Int) < nc → ∃ i : Nat, (i : Int) < nc ∧ wtM (rlX ls C) 59 514 i = (c : Int)))
theorem hr_wg {J : II} (h : TX J) : hrM (wgM J (J 508 9)) = hrM J := by
  have e9 : wgM J (J 508 9) 508 9 = J 508 9 := by
    unfold wgM
    split
    · rw [up_eq]
    · rfl
  unfold hrM
  rw [e9, wg_f (by decide) (by decide), wg_s (by decide)]
theorem pop_le {s n : Nat} (hn : n ≤ 8) (hb : ∀ c, c < 8 → btI s c = 1 → c < n) : pop8 s ≤ n := by
  have h1 := pop_sum s
  have f : ∀ k, k < 8 → (btI s k = 0 ∨ btI s k = 1) ∧ (n ≤ k → btI s k = 0) := fun k hk => ⟨btI_01 s k, fun g => by
    rcases btI_01 s k with g2 | g2
    · exact g2
    · have := hb k hk g2; omega⟩
  have f0 := f 0 (by omega)
  have f1 := f 1 (by omega)
  have f2 := f 2 (by omega)
  have f3 := f 3 (by omega)
  have f4 := f 4 (by omega)
  have f5 := f 5 (by omega)
  have f6 := f 6 (by omega)
  have f7 := f 7 (by omega)
  omega
theorem pop_all {s n : Nat} (hs : s < 256) (hn : n ≤ 8) (hb : ∀ c, c < 8 → btI s c = 1 → c < n) (hp : pop8 s = n) : ∀ c, c < n → btI s c = 1 := by
  intro c hc
  rcases btI_01 s c with g | g
  · have h1 := pop_or s hs c (by omega) g
    have h2 := pop_le (s := s ||| 2 ^ c) hn (fun d hd hbd => by
      rw [bt_or s hs c (by omega) d hd] at hbd
      by_cases e : d = c
      · omega
      · rw [if_neg e] at hbd
        exact hb d hd hbd)
    omega
  · exact g
theorem rk_loop {t : Nat} {nc : Nat} {ls p0 : Int} (hnc : 2 ≤ nc ∧ nc ≤ 8) (hls : 1 ≤ ls) : ∀ (f k s : Nat) (I J : II), k + f = 9 → k ≤ 8 → TT I t J → J 509 0 = (nc : Int) → J 508 13 = (k : Int) → s < 256 → pop8 s = k → (∀ c, c < 8 → btI s c = 1 → c < nc ∧ ∃ i : Nat, i < k ∧ J 514 i = (c : Int)) → (∀ i, i < k → I (t + 2) i = J 514 i) → p0 ≤ J 508 9 → (1 ≤ k → p0 < J 508 9) →
    ∃ C, (if hrM J = 59 ∧ 1 ≤ k then some J else rrL (f + 3) s J) = some C ∧ (C 508 10 = 0 → 1 ≤ C 508 13) ∧ ∀ J0 : II, J0 508 9 = p0 → RKO t nc ls J0 (rkL t nc ls f k s I) C
  | 0, k, s, I, J, hk, hk8, h, hn, h13, hs, hp, hb, hr, hp0, hp1 => by omega
  | f + 1, k, s, I, J, hk, hk8, h, hn, h13, hs, hp, hb, hr, hp0, hp1 => by
    have h0 := h
    obtain ⟨a1, a2, a3, a4, a5, a6⟩ := h
    have p := a3.1
    have hc := ch_hr h0
    have hrr := hr_rng a1
    have hw := WR_wg (w := J 508 9) a1 a2 (by omega)
    have hw0 : ¬ wgM J (J 508 9) 508 10 = 0 := by rw [hw.2.1]; decide
    have bad : RKO t nc ls J (0, fl I t) (wgM J (J 508 9)) ∧ ∀ J0 : II, RKO t nc ls J0 (0, fl I t) (wgM J (J 508 9)) := by
      have e : rlX ls (wgM J (J 508 9)) = wgM J (J 508 9) := if_neg (fun g => hw0 g.1)
      have : ∀ J0 : II, RKO t nc ls J0 (0, fl I t) (wgM J (J 508 9)) := fun J0 => by
        unfold RKO
        rw [e, WR_wt hw]
        refine Or.inl ⟨rfl, ?_⟩
        show WR (fl I t t 5) _
        rw [fl_5, a4]
        exact hw
      exact ⟨this J, this⟩
    unfold rkL
    by_cases g : hrM J = 59
    · have hch : ch I t = 59 := by omega
      by_cases gk : 1 ≤ k
      · rw [if_pos ⟨g, gk⟩]
        refine ⟨J, rfl, fun _ => by omega, fun J0 hJ0 => ?_⟩
        by_cases gl : ls ≤ (k : Int)
        · rw [if_pos ⟨hch, gl⟩]
          have e : rlX ls J = J := if_neg (fun g2 => by omega)
          have e2 : wtM J 59 = pcM J := by
            have e1 : wtI J 59 = J := if_pos g
            unfold wtM
            rw [e1, if_pos a2]
          have hT := TT_inc h0 (by omega)
          have e13 : pcM J 508 13 = (k : Int) := by rw [pc_f (by decide)]; exact h13
          have hnk : k ≤ nc := by
            have := pop_le hnc.2 (fun c hc hb1 => (hb c hc hb1).1)
            omega
          unfold RKO
          rw [e, e2, e13]
          refine Or.inr ⟨rfl, ⟨hT.1, hT.2.1, TI_rl hT.2.2.1 (by omega), ?_, ?_, ?_⟩, ?_, ⟨by omega, gl, by omega⟩, fun i hi => ?_, ?_, fun g2 c hc2 => ?_⟩
          · show up (inc I t) t 2 (k : Int) t 3 = _
            rw [up_nk (by decide)]; exact hT.2.2.2.1
          · show up (inc I t) t 2 (k : Int) t 4 = _
            rw [up_nk (by decide)]; exact hT.2.2.2.2.1
          · intro q hq
            show up (inc I t) t 2 (k : Int) (t + 1) q = _
            rw [up_ne (by omega)]; exact hT.2.2.2.2.2 q hq
          · show up (inc I t) t 2 (k : Int) t 2 = _
            rw [up_eq]
          · show up (inc I t) t 2 (k : Int) (t + 2) i = _
            rw [up_ne (by omega), pc_s (by decide)]
            unfold inc
            rw [up_ne (by omega)]
            exact hr i (by omega)
          · have : pcM J 508 9 = J 508 9 + 1 := up_eq
            have := hp1 gk
            omega
          · have hall := pop_all hs hnc.2 (fun c hc hb1 => (hb c hc hb1).1) (by omega) c (by omega)
            obtain ⟨i, i1, i2⟩ := (hb c (by omega) hall).2
            exact ⟨i, by omega, by rw [pc_s (by decide)]; exact i2⟩
        · rw [if_neg (fun g2 => gl g2.2), if_pos (by omega)]
          have e : rlX ls J = wgM J (J 508 9) := if_pos ⟨a2, by omega⟩
          unfold RKO
          rw [e, WR_wt hw]
          refine Or.inl ⟨rfl, ?_⟩
          show WR (fl I t t 5) _
          rw [fl_5, a4]
          exact hw
      · rw [if_neg (fun g2 => gk g2.2), if_neg (fun g2 => by omega), if_pos (by omega)]
        refine ⟨wgM J (J 508 9), ?_, fun g9 => (hw0 g9).elim, fun J0 _ => bad.2 J0⟩
        show rrL (f + 3 + 1) s J = _
        unfold rrL
        rw [if_neg (fun g2 => g2 a2), if_pos (Or.inl (inF_0.mpr (by omega))), if_pos (by rw [hr_wg a1]; exact g)]
    · rw [if_neg (fun g2 => g g2.1), if_neg (show ¬ (ch I t = 59 ∧ ls ≤ (k : Int)) by omega)]
      have hi0 := @inF_0 (hrM J - 97) 0 (J 509 0 - 1)
      by_cases gm : inF (hrM J - 97) 0 (J 509 0 - 1) = 0 ∨ btI s (hrM J - 97).toNat = 1
      · have hcb : k = 8 ∨ ch I t - 97 < 0 ∨ (nc : Int) ≤ ch I t - 97 ∨ ¬ btI s (ch I t - 97).toNat = 0 := by
          rcases hc with ⟨e1, e2⟩ | ⟨e1, e2, e3⟩
          · rw [e1]
            rcases gm with gm | gm
            · have := hi0.mp gm
              omega
            · exact Or.inr (Or.inr (Or.inr (by omega)))
          · omega
        rw [if_pos hcb]
        refine ⟨wgM J (J 508 9), ?_, fun g9 => (hw0 g9).elim, fun J0 _ => bad.2 J0⟩
        show rrL (f + 3 + 1) s J = _
        unfold rrL
        rw [if_neg (fun g2 => g2 a2), if_pos gm, if_neg (by rw [hr_wg a1]; exact g)]
        show rrL (f + 2 + 1) s _ = _
        unfold rrL
        rw [if_pos hw0]
      · have hin : 0 ≤ hrM J - 97 ∧ hrM J - 97 < nc := by
          by_cases g2 : inF (hrM J - 97) 0 (J 509 0 - 1) = 0
          · exact (gm (Or.inl g2)).elim
          · have := inF_1.mp g2; omega
        have e1 : ch I t = hrM J := by omega
        obtain ⟨c, hcc⟩ := Int.eq_ofNat_of_zero_le hin.1
        have hb0 : btI s c = 0 := by
          rcases btI_01 s c with g2 | g2
          · exact g2
          · exact (gm (Or.inr (by rw [hcc, Int.toNat_natCast]; exact g2))).elim
        have hk7 : k < 8 := by
          by_cases g2 : k < 8
          · exact g2
          · have hall := pop_all hs (Nat.le_refl 8) (fun c hc _ => hc) (by omega) c (by omega)
            omega
        have hN := TX_rrN a1 (show 0 ≤ hrM J - 97 ∧ hrM J - 97 < 8 by omega) (by omega)
        rw [e1, hcc, Int.toNat_natCast]
        rw [if_neg (show ¬ (k = 8 ∨ (c : Int) < 0 ∨ (nc : Int) ≤ (c : Int) ∨ ¬ btI s c = 0) by omega)]
        have hT9 : TT (inc (up I (t + 2) k (c : Int)) t) t (rrN J) := by
          refine ⟨hN, by rw [rrN_f (by decide) (by decide)]; exact a2, ?_, ?_, ?_, fun q hq => ?_⟩
          · refine TI_inc (TI_rk a3 (by omega)) ?_
            rw [up_ne (by omega)]
            omega
          · unfold inc rrN pcM
            rw [up_eq, up_eq, up_ne (by omega), up_nk (by decide), up_ne (by decide), a4]
          · unfold inc
            rw [up_nk (by decide), up_ne (by omega), rrN_f (by decide) (by decide)]; exact a5
          · unfold inc
            rw [up_ne (by omega), up_ne (by omega), rrN_s (by decide) (by decide)]; exact a6 q hq
        have e13 : rrN J 508 13 = ((k + 1 : Nat) : Int) := by
          unfold rrN pcM
          rw [up_nk (by decide), up_eq]; omega
        have e9 : rrN J 508 9 = J 508 9 + 1 := by
          unfold rrN pcM
          rw [up_eq, up_nk (by decide), up_ne (by decide)]
        have e514 : ∀ i, rrN J 514 i = if i = k then (c : Int) else J 514 i := fun i => by
          unfold rrN pcM
          rw [up_ne (by decide), up_ne (by decide), h13, Int.toNat_natCast, hcc]
          by_cases g2 : i = k
          · rw [g2, up_eq, if_pos rfl]
          · rw [up_nk g2, if_neg g2]
        have hb2 : ∀ d, d < 8 → btI (s ||| 2 ^ c) d = 1 → d < nc ∧ ∃ i : Nat, i < k + 1 ∧ rrN J 514 i = (d : Int) := fun d hd hbd => by
          rw [bt_or s hs c (by omega) d hd] at hbd
          by_cases g2 : d = c
          · rw [g2]
            exact ⟨by omega, k, by omega, by rw [e514, if_pos rfl]⟩
          · rw [if_neg g2] at hbd
            obtain ⟨i1, i, i2, i3⟩ := hb d hd hbd
            exact ⟨i1, i, by omega, by rw [e514, if_neg (by omega)]; exact i3⟩
        have hr2 : ∀ i, i < k + 1 → inc (up I (t + 2) k (c : Int)) t (t + 2) i = rrN J 514 i := fun i hi => by
          unfold inc
          rw [up_ne (by omega), e514]
          by_cases g2 : i = k
          · rw [g2, up_eq, if_pos rfl]
          · rw [up_nk g2, if_neg g2]
            exact hr i (by omega)
        obtain ⟨C, c1, c3, c2⟩ := rk_loop (t := t) (p0 := p0) hnc hls f (k + 1) (s ||| 2 ^ c) _ (rrN J) (by omega) (by omega) hT9 (by rw [rrN_s (by decide) (by decide)]; exact hn) e13 (or_lt s hs c (by omega)) (by rw [pop_or s hs c (by omega) hb0, hp]) hb2 hr2 (by omega) (fun _ => by omega)
        refine ⟨C, ?_, c3, c2⟩
        show rrL (f + 3 + 1) s J = _
        unfold rrL
        rw [if_neg (fun g2 => g2 a2), if_neg gm, if_pos (show J 508 13 < 8 by omega), hcc, Int.toNat_natCast, ← c1]
        by_cases g2 : hrM (rrN J) = 59
        · rw [if_pos g2, if_pos ⟨g2, by omega⟩]
        · rw [if_neg g2, if_neg (fun g3 => g2 g3.1)]
theorem rk_sim {I J : II} {t nc : Nat} {ls : Int} (h : TT I t J) (hn : J 509 0 = (nc : Int)) (hls : 1 ≤ ls) : ∃ C, rrO J = some C ∧ (C 508 10 = 0 → 1 ≤ C 508 13) ∧ RKO t nc ls J (rkR I t nc ls) C := by
  have hnn := h.1.1.1.1
  have hz : TT I t (up J 508 13 0) := by
    obtain ⟨a1, a2, a3, a4, a5, a6⟩ := h
    exact ⟨TX_r0 a1, by rw [up_nk (by decide)]; exact a2, a3, by rw [up_nk (by decide)]; exact a4, by rw [up_nk (by decide)]; exact a5, fun k hk => by rw [up_ne (by decide)]; exact a6 k hk⟩
  obtain ⟨C, c1, c3, c2⟩ := rk_loop (t := t) (nc := nc) (p0 := J 508 9) (ls := ls) ⟨by omega, by omega⟩ hls 9 0 0 I _ (by omega) (by omega) hz (by rw [up_ne (by decide)]; exact hn) up_eq (by decide) (by decide) (fun c _ hb => by rw [bt_z] at hb; omega) (fun i hi => by omega) (by rw [up_nk (by decide)]; exact Int.le_refl _) (fun g => by omega)
  refine ⟨C, ?_, c3, c2 J rfl⟩
  rw [if_neg (fun g => by omega)] at c1
  exact c1
