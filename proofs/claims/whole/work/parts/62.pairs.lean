/-! SIMULATION: the class's cells and the model's, pairs of equal cells -/
def PRc (c nC w r a k b j : Nat) : Prop :=
  (k < 8 ∧ j = k ∧ ((a = c + 47 ∧ b = 531) ∨ (a = c + 3 ∧ b = 525) ∨ (a = c + 16 ∧ b = 526) ∨ (a = c + 17 ∧ b = 528) ∨ (a = c + 18 ∧ b = 529)))
  ∨ (a = c ∧ b = 508 ∧ ((k = 14 ∧ j = 39) ∨ (k = 15 ∧ j = 40)))
  ∨ (a = c + 1 ∧ k = 1 ∧ b = 508 ∧ j = 32)
  ∨ (k < w ∧ j = k ∧ a = c + 2 ∧ b = 530)
  ∨ (k < nC ∧ j = k ∧ ((a = c + 48 ∧ b = 533) ∨ (a = c + 51 ∧ b = 535)))
  ∨ (k < r ∧ j = k ∧ c + 20 ≤ a ∧ a ≤ c + 26 ∧ b + c + 20 = a + 516)
  ∨ (c + 5 ≤ a ∧ a < c + 5 + r ∧ k < 8 ∧ b = 515 ∧ j + 8 * (c + 5) = 8 * a + k)
  ∨ (c + 28 ≤ a ∧ a < c + 28 + r ∧ k < nC ∧ b = 523 ∧ j + 25 * (c + 28) = 25 * a + k)
  ∨ (c + 38 ≤ a ∧ a < c + 38 + r ∧ k < nC ∧ b = 524 ∧ j + 25 * (c + 38) = 25 * a + k)
def EQc (c nC w r : Nat) (I J : II) : Prop := ∀ a k b j, PRc c nC w r a k b j → I a k = J b j
set_option maxHeartbeats 4000000 in
theorem pr_fun {c nC w r a k b j b2 j2 : Nat} (hr : r ≤ 9) (h1 : PRc c nC w r a k b j) (h2 : PRc c nC w r a k b2 j2) : b = b2 ∧ j = j2 := by
  unfold PRc at h1 h2
  rcases h1 with h1 | h1 | h1 | h1 | h1 | h1 | h1 | h1 | h1 <;> rcases h2 with h2 | h2 | h2 | h2 | h2 | h2 | h2 | h2 | h2 <;> omega
set_option maxHeartbeats 4000000 in
theorem pr_inj {c nC w r a k b j a2 k2 : Nat} (hr : r ≤ 9) (hn : nC ≤ 25) (h1 : PRc c nC w r a k b j) (h2 : PRc c nC w r a2 k2 b j) : a = a2 ∧ k = k2 := by
  unfold PRc at h1 h2
  rcases h1 with h1 | h1 | h1 | h1 | h1 | h1 | h1 | h1 | h1 <;> rcases h2 with h2 | h2 | h2 | h2 | h2 | h2 | h2 | h2 | h2 <;> omega
theorem up_o {I : II} {a k b j : Nat} {z : Int} (h : ¬ (b = a ∧ j = k)) : up I a k z b j = I b j := by
  by_cases h1 : b = a
  · subst h1
    exact up_nk (fun e => h ⟨rfl, e⟩)
  · rw [up_ne h1]
theorem up_same {J : II} {b j : Nat} {z : Int} (h : z = J b j) : up J b j z = J := by
  funext b2 j2
  by_cases h1 : b2 = b ∧ j2 = j
  · obtain ⟨rfl, rfl⟩ := h1
    rw [up_eq, h]
  · rw [up_o h1]
theorem up_comm {I : II} {a k b j : Nat} {x y : Int} (h : a ≠ b) : up (up I a k x) b j y = up (up I b j y) a k x := by
  funext b2 j2
  by_cases h1 : b2 = b ∧ j2 = j
  · obtain ⟨rfl, rfl⟩ := h1
    rw [up_eq, up_ne (fun e => h e.symm), up_eq]
  · rw [up_o h1]
    by_cases h2 : b2 = a ∧ j2 = k
    · obtain ⟨rfl, rfl⟩ := h2
      rw [up_eq, up_eq]
    · rw [up_o h2, up_o h2, up_o h1]
theorem eq_up {c nC w r a k b j : Nat} {I J : II} {z : Int} (h : EQc c nC w r I J) (hr : r ≤ 9) (hn : nC ≤ 25) (hp : PRc c nC w r a k b j) : EQc c nC w r (up I a k z) (up J b j z) := by
  intro a2 k2 b2 j2 h2
  by_cases e : a2 = a ∧ k2 = k
  · obtain ⟨rfl, rfl⟩ := e
    obtain ⟨rfl, rfl⟩ := pr_fun hr hp h2
    rw [up_eq, up_eq]
  · rw [up_o e, up_o (fun g => e (by obtain ⟨rfl, rfl⟩ := g; exact pr_inj hr hn h2 hp))]
    exact h _ _ _ _ h2
theorem eq_upv {c nC w r a k b j : Nat} {I J : II} {z y : Int} (h : EQc c nC w r I J) (hr : r ≤ 9) (hn : nC ≤ 25) (hp : PRc c nC w r a k b j) (hz : z = y) : EQc c nC w r (up I a k z) (up J b j y) := by
  subst hz
  exact eq_up h hr hn hp
theorem eq_l {c nC w r a k : Nat} {I J : II} {z : Int} (h : EQc c nC w r I J) (hn : ∀ b j, ¬ PRc c nC w r a k b j) : EQc c nC w r (up I a k z) J := by
  intro a2 k2 b2 j2 h2
  rw [up_o (fun g => by obtain ⟨rfl, rfl⟩ := g; exact hn _ _ h2)]
  exact h _ _ _ _ h2
theorem eq_r {c nC w r b j : Nat} {I J : II} {z : Int} (h : EQc c nC w r I J) (hn : ∀ a k, ¬ PRc c nC w r a k b j) : EQc c nC w r I (up J b j z) := by
  intro a2 k2 b2 j2 h2
  rw [up_o (fun g => by obtain ⟨rfl, rfl⟩ := g; exact hn _ _ h2)]
  exact h _ _ _ _ h2
/-- cells of the class that are nobody's pair -/
theorem pn_l {c nC w r a k : Nat} (hr : r ≤ 9) (h : (a = c ∧ (k = 10 ∨ k = 11 ∨ k = 12 ∨ k = 13)) ∨ a = c + 49 ∨ a = c + 50 ∨ a = c + 14 ∨ (a = c + 1 ∧ k = 0) ∨ a < c) : ∀ b j, ¬ PRc c nC w r a k b j := by
  intro b j h1
  unfold PRc at h1
  rcases h1 with h1 | h1 | h1 | h1 | h1 | h1 | h1 | h1 | h1 <;> omega
/-- cells of the model that are nobody's pair -/
theorem pn_r {c nC w r b j : Nat} (h : b = 534 ∨ b = 536 ∨ b = 532 ∨ b = 527 ∨ b < 508 ∨ (508 < b ∧ b < 515) ∨ 536 < b ∨ (b = 508 ∧ ¬ j = 39 ∧ ¬ j = 40 ∧ ¬ j = 32)) : ∀ a k, ¬ PRc c nC w r a k b j := by
  intro a k h1
  unfold PRc at h1
  rcases h1 with h1 | h1 | h1 | h1 | h1 | h1 | h1 | h1 | h1 <;> omega
theorem eq_w {c nC w r : Nat} {I J : II} {z : Int} (h : EQc c nC w r I J) (hr : r ≤ 9) (hw : w < 8) : EQc c nC (w + 1) r (up I (c + 2) w z) (up J 530 w z) := by
  intro a k b j h2
  by_cases e : a = c + 2 ∧ k = w
  · obtain ⟨rfl, rfl⟩ := e
    have : b = 530 ∧ j = k := by
      unfold PRc at h2
      rcases h2 with h2 | h2 | h2 | h2 | h2 | h2 | h2 | h2 | h2 <;> omega
    obtain ⟨rfl, rfl⟩ := this
    rw [up_eq, up_eq]
  · have e2 : ¬ (b = 530 ∧ j = w) := fun g => by
      unfold PRc at h2
      rcases h2 with h2 | h2 | h2 | h2 | h2 | h2 | h2 | h2 | h2 <;> omega
    rw [up_o e, up_o e2]
    refine h _ _ _ _ ?_
    unfold PRc at h2 ⊢
    rcases h2 with h2 | h2 | h2 | h2 | h2 | h2 | h2 | h2 | h2
    · exact Or.inl h2
    · exact Or.inr (Or.inl h2)
    · exact Or.inr (Or.inr (Or.inl h2))
    · exact Or.inr (Or.inr (Or.inr (Or.inl (by omega))))
    · exact Or.inr (Or.inr (Or.inr (Or.inr (Or.inl h2))))
    · exact Or.inr (Or.inr (Or.inr (Or.inr (Or.inr (Or.inl h2)))))
    · exact Or.inr (Or.inr (Or.inr (Or.inr (Or.inr (Or.inr (Or.inl h2))))))
    · exact Or.inr (Or.inr (Or.inr (Or.inr (Or.inr (Or.inr (Or.inr (Or.inl h2)))))))
    · exact Or.inr (Or.inr (Or.inr (Or.inr (Or.inr (Or.inr (Or.inr (Or.inr h2)))))))
/-! the pairs by name -/
theorem pr_vt {c nC w r k : Nat} (h : k < 8) : PRc c nC w r (c + 47) k 531 k := Or.inl ⟨h, rfl, Or.inl ⟨rfl, rfl⟩⟩
theorem pr_st {c nC w r k : Nat} (h : k < 8) : PRc c nC w r (c + 3) k 525 k := Or.inl ⟨h, rfl, Or.inr (Or.inl ⟨rfl, rfl⟩)⟩
theorem pr_rd {c nC w r k : Nat} (h : k < 8) : PRc c nC w r (c + 16) k 526 k := Or.inl ⟨h, rfl, Or.inr (Or.inr (Or.inl ⟨rfl, rfl⟩))⟩
theorem pr_rs {c nC w r k : Nat} (h : k < 8) : PRc c nC w r (c + 17) k 528 k := Or.inl ⟨h, rfl, Or.inr (Or.inr (Or.inr (Or.inl ⟨rfl, rfl⟩)))⟩
theorem pr_tr {c nC w r k : Nat} (h : k < 8) : PRc c nC w r (c + 18) k 529 k := Or.inl ⟨h, rfl, Or.inr (Or.inr (Or.inr (Or.inr ⟨rfl, rfl⟩)))⟩
theorem pr_ex {c nC w r : Nat} : PRc c nC w r c 14 508 39 := Or.inr (Or.inl ⟨rfl, rfl, Or.inl ⟨rfl, rfl⟩⟩)
theorem pr_lo {c nC w r : Nat} : PRc c nC w r c 15 508 40 := Or.inr (Or.inl ⟨rfl, rfl, Or.inr ⟨rfl, rfl⟩⟩)
theorem pr_ec {c nC w r : Nat} : PRc c nC w r (c + 1) 1 508 32 := Or.inr (Or.inr (Or.inl ⟨rfl, rfl, rfl, rfl⟩))
theorem pr_or {c nC w r k : Nat} (h : k < w) : PRc c nC w r (c + 2) k 530 k := Or.inr (Or.inr (Or.inr (Or.inl ⟨h, rfl, rfl, rfl⟩)))
theorem pr_ho {c nC w r k : Nat} (h : k < nC) : PRc c nC w r (c + 48) k 533 k := Or.inr (Or.inr (Or.inr (Or.inr (Or.inl ⟨h, rfl, Or.inl ⟨rfl, rfl⟩⟩))))
theorem pr_wo {c nC w r k : Nat} (h : k < nC) : PRc c nC w r (c + 51) k 535 k := Or.inr (Or.inr (Or.inr (Or.inr (Or.inl ⟨h, rfl, Or.inr ⟨rfl, rfl⟩⟩))))
theorem pr_lg {c nC w r k i : Nat} (h : k < r) (hi : i ≤ 6) : PRc c nC w r (c + 20 + i) k (516 + i) k := Or.inr (Or.inr (Or.inr (Or.inr (Or.inr (Or.inl ⟨h, rfl, by omega, by omega, by omega⟩)))))
theorem pr_vr {c nC w r k i : Nat} (h : i < r) (hk : k < 8) : PRc c nC w r (c + 5 + i) k 515 (8 * i + k) := Or.inr (Or.inr (Or.inr (Or.inr (Or.inr (Or.inr (Or.inl ⟨by omega, by omega, hk, rfl, by omega⟩))))))
theorem pr_hr {c nC w r k i : Nat} (h : i < r) (hk : k < nC) : PRc c nC w r (c + 28 + i) k 523 (25 * i + k) := Or.inr (Or.inr (Or.inr (Or.inr (Or.inr (Or.inr (Or.inr (Or.inl ⟨by omega, by omega, hk, rfl, by omega⟩)))))))
theorem pr_wr {c nC w r k i : Nat} (h : i < r) (hk : k < nC) : PRc c nC w r (c + 38 + i) k 524 (25 * i + k) := Or.inr (Or.inr (Or.inr (Or.inr (Or.inr (Or.inr (Or.inr (Or.inr ⟨by omega, by omega, hk, rfl, by omega⟩)))))))
/-! the elections; the sets; the piles -/
def EL (I : II) (e : Nat) (J : II) (nC nM : Nat) : Prop :=
  (I e 0 = J 509 0 ∧ I e 2 = J 509 2 ∧ I e 4 = (nC : Int) ∧ J 509 1 = (nM : Int) ∧ nC ≤ nM ∧ nM ≤ 25) ∧ (∀ k, k < 8 → I (e + 2) k = J 509 (7 + k)) ∧ (∀ k, k < 4 → I (e + 1) k = J 509 (3 + k)) ∧ (∀ p, p < nC → I (e + 3) p = mSz J p ∧ I (e + 4) p = mLn J p ∧ ∀ k : Nat, (k : Int) < mLn J p → I (e + 6 + p) k = mRk J p k) ∧ (∀ p, nC ≤ p → p < nM → mSz J p = 0) ∧ ∀ c : Nat, (c : Int) < J 509 0 → ∃ k : Nat, (k : Int) < J 509 0 ∧ J 509 (7 + k) = (c : Int)
theorem EL_of {I I2 J J2 : II} {e nC nM : Nat} (h : EL I e J nC nM) (h1 : ∀ x, e ≤ x → x < e + 31 → I2 x = I x) (h2 : J2 509 = J 509) : EL I2 e J2 nC nM := by
  obtain ⟨⟨a1, a2, a3, a4, a5, a6⟩, b, d, f, g, k⟩ := h
  have s1 : ∀ p, mSz J2 p = mSz J p := fun p => by unfold mSz; rw [h2]
  have s2 : ∀ p, mLn J2 p = mLn J p := fun p => by unfold mLn; rw [h2]
  have s3 : ∀ p k, mRk J2 p k = mRk J p k := fun p k => by unfold mRk; rw [h2]
  refine ⟨⟨?_, ?_, ?_, ?_, a5, a6⟩, fun k hk => ?_, fun k hk => ?_, fun p hp => ?_, fun p hp1 hp2 => ?_, fun x hx => ?_⟩
  · rw [h1 e (by omega) (by omega), h2]; exact a1
  · rw [h1 e (by omega) (by omega), h2]; exact a2
  · rw [h1 e (by omega) (by omega)]; exact a3
  · rw [h2]; exact a4
  · rw [h1 (e + 2) (by omega) (by omega), h2]; exact b k hk
  · rw [h1 (e + 1) (by omega) (by omega), h2]; exact d k hk
  · rw [h1 (e + 3) (by omega) (by omega), h1 (e + 4) (by omega) (by omega), h1 (e + 6 + p) (by omega) (by omega), s1, s2]
    exact ⟨(f p hp).1, (f p hp).2.1, fun k hk => by rw [s3]; exact (f p hp).2.2 k hk⟩
  · rw [s1]; exact g p hp1 hp2
  · rw [h2] at hx ⊢; exact k x hx
def AX (c nC : Nat) (I J : II) : Prop :=
  (∀ k, k < 8 → btI (I c 10).toNat k = if J 525 k = 0 then 1 else 0) ∧ (∀ k, k < 8 → btI (I c 11).toNat k = if J 525 k = 1 ∧ J 532 k = 0 then 1 else 0) ∧ ∀ p, p < nC → ¬ J 533 p = -1 → I (c + 49) p = J 534 p ∧ I (c + 50) p = J 536 p
theorem nx_eq {I J : II} {e p h : Nat} (hh : ∀ k, k < 8 → btI h k = if J 525 k = 0 then 1 else 0) (hr : ∀ k : Nat, (k : Int) < mLn J p → I (e + 6 + p) k = mRk J p k ∧ 0 ≤ mRk J p k ∧ mRk J p k < 8) : ∀ n k : Nat, ((k + n : Nat) : Int) ≤ mLn J p → nextF (I (e + 6 + p)) h n k = nxM J p n k
  | 0, _, _ => rfl
  | n + 1, k, hk => by
    obtain ⟨r1, r2, r3⟩ := hr k (by omega)
    have hb := hh (mRk J p k).toNat (by omega)
    unfold nextF nxM
    rw [r1, hb]
    by_cases h0 : J 525 (mRk J p k).toNat = 0
    · rw [if_pos h0, if_pos h0, if_neg (by decide)]
    · rw [if_neg h0, if_neg h0, if_pos rfl]
      exact nx_eq hh hr n (k + 1) (by omega)
theorem nx_spec (J : II) (p : Nat) : ∀ n k, nxM J p n k < k + n → J 525 (mRk J p (nxM J p n k)).toNat = 0
  | 0, k, h => by
    have : nxM J p 0 k = k := rfl
    omega
  | n + 1, k, h => by
    unfold nxM at h ⊢
    by_cases h0 : J 525 (mRk J p k).toNat = 0
    · rw [if_pos h0]; exact h0
    · rw [if_neg h0] at h ⊢
      exact nx_spec J p n (k + 1) (by omega)
/-- how a pile goes on -/
theorem go_cases {J : II} {p : Nat} {b r : Int} (hW : WfM J) (hp : p < 25) (hb : -1 ≤ b ∧ b < mLn J p) :
    (∃ d k : Nat, d < 8 ∧ (k : Int) < mLn J p ∧ b < k ∧ goK J p b = k ∧ mRk J p k = (d : Int) ∧ J 525 d = 0 ∧ goM J p b r = up (up (up (up J 534 p k) 536 p r) 533 p d) 531 d (wr (J 531 d + mSz J p * J 535 p)))
    ∨ (∃ k : Nat, mLn J p ≤ (k : Int) ∧ goK J p b = k ∧ goM J p b r = up (up (up (up J 534 p k) 536 p r) 533 p (-1)) 508 39 (wr (J 508 39 + mSz J p * J 535 p))) := by
  have w4 := hW.2.2.2.2.1 p hp
  have hl := nxM_le J p ((mLn J p).toNat - (b + 1).toNat) (b + 1).toNat
  have hg : goK J p b = nxM J p ((mLn J p).toNat - (b + 1).toNat) (b + 1).toNat := rfl
  by_cases h : (goK J p b : Int) < mLn J p
  · have w5 := hW.2.2.2.2.2.1 p (goK J p b) hp (by omega)
    have hs := nx_spec J p ((mLn J p).toNat - (b + 1).toNat) (b + 1).toNat (by rw [← hg]; omega)
    rw [← hg] at hs
    refine Or.inl ⟨(mRk J p (goK J p b)).toNat, goK J p b, by omega, h, by omega, rfl, by omega, hs, ?_⟩
    unfold goM
    rw [if_pos h, show (((mRk J p (goK J p b)).toNat : Nat) : Int) = mRk J p (goK J p b) by omega]
  · refine Or.inr ⟨goK J p b, by omega, rfl, ?_⟩
    unfold goM
    rw [if_neg h]
/-- a pile goes on on both sides -/
theorem go_sim {c e nC nM w r1 p : Nat} {I J : II} {b r : Int} (hE : EL I e J nC nM) (hQ : EQc c nC w r1 I J) (hA : AX c nC I J) (hI : CI I c e) (hM : MI J) (hr1 : r1 ≤ 9) (hp : p < nC) (hb : I (c + 49) p = b) (hb2 : -1 ≤ b ∧ b < mLn J p) :
    EQc c nC w r1 (sendM I c e p r) (goM J p b r) ∧ AX c nC (sendM I c e p r) (goM J p b r) ∧ unitsF I c e p = mSz J p * J 535 p := by
  obtain ⟨⟨a1, a2, a3, a4, a5, a6⟩, b1, d1, f1, g1, k1⟩ := hE
  obtain ⟨f2, f3, f4⟩ := f1 p hp
  obtain ⟨x1, x2, x3⟩ := hA
  have hu : unitsF I c e p = mSz J p * J 535 p := by
    unfold unitsF
    rw [f2, hQ _ _ _ _ (pr_wo hp)]
  have w4 := hM.1.2.2.2.2.1 p (by omega)
  have hk : sendK I c e p = goK J p b := by
    unfold sendK goK
    rw [hb, f3]
    exact nx_eq x1 (fun k hk => ⟨f4 k hk, hM.1.2.2.2.2.2.1 p k (by omega) (by omega)⟩) _ _ (by omega)
  have px : ∀ (I2 J2 : II), (∀ k, k = 10 ∨ k = 11 → I2 c k = I c k) → (∀ q, J2 525 q = J 525 q ∧ J2 532 q = J 532 q) → (∀ q, q < nC → ¬ J2 533 q = -1 → I2 (c + 49) q = J2 534 q ∧ I2 (c + 50) q = J2 536 q) → AX c nC I2 J2 := fun I2 J2 h1 h2 h3 => ⟨fun k hk => by rw [h1 10 (Or.inl rfl), (h2 k).1]; exact x1 k hk, fun k hk => by rw [h1 11 (Or.inr rfl), (h2 k).1, (h2 k).2]; exact x2 k hk, h3⟩
  refine ⟨?_, ?_, hu⟩
  · rcases go_cases (r := r) hM.1 (by omega) hb2 with ⟨d, k, c1, c2, c3, c4, c5, c6, c7⟩ | ⟨k, c1, c2, c3⟩
    · rw [c7]
      unfold sendM
      rw [hk, c4, f3, if_pos c2, f4 k c2, c5, Int.toNat_natCast, hu]
      refine eq_upv ?_ hr1 (by omega) (pr_vt c1) (by rw [hQ _ _ _ _ (pr_vt c1)])
      have h0 := eq_l (z := (k : Int)) (a := c + 49) (k := p) (eq_up (z := (d : Int)) hQ hr1 (by omega) (pr_ho hp)) (pn_l hr1 (by omega))
      have h1 := eq_l (z := r) (a := c + 50) (k := p) h0 (pn_l hr1 (by omega))
      have h2 := eq_r (z := r) (b := 536) (j := p) (eq_r (z := (k : Int)) (b := 534) (j := p) h1 (pn_r (by omega))) (pn_r (by omega))
      have e9 : up (up (up J 534 p (k : Int)) 536 p r) 533 p (d : Int) = up (up (up J 533 p (d : Int)) 534 p (k : Int)) 536 p r := by
        rw [up_comm (a := 536) (b := 533) (by decide), up_comm (a := 534) (b := 533) (by decide)]
      rw [e9]
      exact h2
    · rw [c3]
      unfold sendM
      rw [hk, c2, f3, if_neg (by omega), hu]
      refine eq_upv ?_ hr1 (by omega) pr_ex (by rw [hQ _ _ _ _ pr_ex])
      have e9 : up (up (up J 534 p (k : Int)) 536 p r) 533 p (-1) = up (up (up J 533 p (-1)) 534 p (k : Int)) 536 p r := by
        rw [up_comm (a := 536) (b := 533) (by decide), up_comm (a := 534) (b := 533) (by decide)]
      rw [e9]
      exact eq_r (eq_r (eq_up hQ hr1 (by omega) (pr_ho hp)) (pn_r (by omega))) (pn_r (by omega))
  · rcases go_cases (r := r) hM.1 (by omega) hb2 with ⟨d, k, c1, c2, c3, c4, c5, c6, c7⟩ | ⟨k, c1, c2, c3⟩
    · rw [c7]
      unfold sendM
      rw [hk, c4, f3, if_pos c2, f4 k c2, c5, Int.toNat_natCast]
      refine px _ _ (fun x hx => ?_) (fun q => ⟨?_, ?_⟩) (fun q hq h9 => ?_)
      · rw [up_ne (by omega), up_ne (by omega), up_ne (by omega), up_ne (by omega)]
      · rw [up_ne (by omega), up_ne (by omega), up_ne (by omega), up_ne (by omega)]
      · rw [up_ne (by omega), up_ne (by omega), up_ne (by omega), up_ne (by omega)]
      · rw [up_ne (a := 531) (by omega)] at h9
        rw [up_ne (a := c + 47) (by omega), up_ne (a := c + 47) (by omega), up_ne (a := 531) (by omega), up_ne (a := 531) (by omega), up_ne (a := c + 50) (by omega), up_ne (a := 533) (by omega), up_ne (a := 533) (by omega), up_ne (a := 536) (by omega)]
        by_cases e : q = p
        · subst e
          rw [up_eq, up_eq, up_eq, up_eq]
          exact ⟨rfl, rfl⟩
        · rw [up_nk e, up_nk e, up_nk e, up_nk e, up_ne (by omega), up_ne (by omega), up_ne (by omega)]
          rw [up_nk e, up_ne (by omega), up_ne (by omega)] at h9
          exact x3 q hq h9
    · rw [c3]
      unfold sendM
      rw [hk, c2, f3, if_neg (by omega)]
      refine px _ _ (fun x hx => ?_) (fun q => ⟨?_, ?_⟩) (fun q hq h9 => ?_)
      · rw [up_nk (by omega), up_ne (by omega)]
      · rw [up_ne (by omega), up_ne (by omega), up_ne (by omega), up_ne (by omega)]
      · rw [up_ne (by omega), up_ne (by omega), up_ne (by omega), up_ne (by omega)]
      · rw [up_ne (a := 508) (by omega)] at h9
        have e : q ≠ p := fun e => by
          subst e
          rw [up_eq] at h9
          exact h9 rfl
        rw [up_nk e, up_ne (by omega), up_ne (by omega)] at h9
        (repeat (first | rw [up_nk e] | rw [up_ne (by omega)]))
        exact x3 q hq h9
