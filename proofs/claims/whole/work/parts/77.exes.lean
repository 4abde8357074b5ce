/-! SIMULATION: a whole text -/
def RIO (t e : Nat) (R : Int × II) (z : Int) (K : II) : Prop := (R.1 = -1 ∧ WR (R.2 t 5) K) ∨ (R.1 = z ∧ 0 ≤ z ∧ TT R.2 t K ∧ WfT R.2 e ∧ ∃ n : Nat, n ≤ 24 ∧ EL R.2 e K n n)
theorem ri_sim {t e : Nat} (het : e + 31 ≤ t) : ∀ (f k n : Nat) (I J : II), k + f = 61 → (k : Int) ≤ J 508 9 → n ≤ 24 → TT I t J → WfT I e → EL I e J n n → ∃ z K, exL (f + 1) k J = some (z, K) ∧ RIO t e (riL t e f k I) z K
  | 0, k, n, I, J, hk, h9, hn, hT, hW, hE => by
    have := hT.1.2.1
    omega
  | f + 1, k, n, I, J, hk, h9, hn, hT, hW, hE => by
    have e0 := hT.2.1
    have e3 := hT.2.2.2.1
    have e4 := hT.2.2.2.2.1
    unfold riL exL
    by_cases g : 0 < k ∧ I t 4 ≤ I t 3
    · rw [if_pos g, if_neg (fun g2 => by rcases g2.2 with g3 | g3 <;> omega)]
      exact ⟨(k : Int), J, rfl, Or.inr ⟨rfl, by omega, hT, hW, n, hn, hE⟩⟩
    · rw [if_neg g, if_pos ⟨e0, by omega⟩]
      obtain ⟨K, k1, k2⟩ := cm_sim het hT hW hE
      rw [k1]
      show ∃ z K2, exL (f + 1) (k + 1) K = some (z, K2) ∧ _
      rcases k2 with ⟨r1, r2⟩ | ⟨r1, r2, r3, ⟨n2, r4, r5⟩, r6⟩
      · rw [if_pos r1]
        refine ⟨((k + 1 : Nat) : Int), K, ?_, Or.inl ⟨rfl, r2⟩⟩
        unfold exL
        rw [if_neg (fun g2 => WR_ne r2 g2.1)]
      · rw [if_neg (by omega)]
        exact ri_sim het f (k + 1) n2 _ K (by omega) (by omega) r4 r2 r3 r5
theorem EL_cpy {I J : II} {e d n : Nat} (h : EL I e J n n) (hd : e + 31 ≤ d ∨ d + 31 ≤ e) (hM : WfM J) : EL (cpyE I e d) d J n n := by
  obtain ⟨q0, q2, q4, q5, q6, q7, q8, q9⟩ := cpyE_eq (I := I) hd
  obtain ⟨⟨a1, a2, a3, a4, a5, a6⟩, b, d1, f, g, k⟩ := h
  refine ⟨⟨q0.trans a1, q2.trans a2, q4.trans a3, a4, a5, a6⟩, fun k hk => (q6 k hk).trans (b k hk), fun k hk => (q5 k hk).trans (d1 k hk), fun q hq => ⟨(q7 q (by omega)).trans (f q hq).1, (q8 q (by omega)).trans (f q hq).2.1, fun k hk => ?_⟩, fun q h1 h2 => by omega, k⟩
  have h8 := (hM.2.2.2.2.1 q (by omega)).2
  exact (q9 q k (by omega) (by omega)).trans ((f q hq).2.2 k hk)
/-- the model's text and election at a call -/
def TE (I : II) (J : II) : Prop := TI0 I 198 ∧ I 198 4 = J 508 8 ∧ ∀ k, k < 60 → I 199 k = J 513 k
theorem xe_sim {I J : II} {n : Nat} (hB : TB J) (hT : TE I J) (hW : WfT I 1) (hE : EL I 1 J n n) : ∃ z K, exL 62 0 (exB J) = some (z, K) ∧ RIO 198 32 (exJ I) z K := by
  obtain ⟨t1, t2, t3⟩ := hT
  have hX := TX_B hB
  have e9 : exB J 509 = J 509 := by
    unfold exB
    rw [up_ne (by decide), up_ne (by decide), cpy_ne (by decide)]
  have e13 : exB J 513 = J 513 := by
    unfold exB
    rw [up_ne (by decide), up_ne (by decide), cpy_ne (by decide)]
  have e8 : exB J 508 8 = J 508 8 := by
    unfold exB
    rw [up_nk (by decide), up_nk (by decide), cpy_ne (by decide)]
  have e09 : exB J 508 9 = 0 := by
    unfold exB
    rw [up_nk (by decide), up_eq]
  have e10 : exB J 508 10 = 0 := by
    unfold exB
    rw [up_eq]
  obtain ⟨h1, h2⟩ := ex_0 hW t1
  have hTT : TT (up (up (cpyE I 1 32) 198 3 0) 198 5 (-1)) 198 (exB J) := by
    refine ⟨hX, e10, TI_00 h2, ?_, ?_, fun k hk => ?_⟩
    · rw [up_nk (by decide), up_eq, e09]
    · rw [up_nk (by decide), up_nk (by decide), e8, cpyE_e (by omega)]; exact t2
    · rw [up_ne (by decide), up_ne (by decide), e13, cpyE_e (by omega)]; exact t3 k hk
  have hE2 : EL (up (up (cpyE I 1 32) 198 3 0) 198 5 (-1)) 32 (exB J) n n := EL_of (EL_cpy hE (Or.inl (by omega)) hB.1.1) (fun x h1 h2 => by rw [up_ne (by omega), up_ne (by omega)]) e9
  have h4 := hE.1.2.2.1
  have hw := hW.2
  exact ri_sim (by omega) 61 0 n _ _ (by omega) (by omega) (by omega) hTT (WfT_00 h1 (by omega)) hE2
