/-! THE MODEL: its text -/
theorem cpy_p {I : II} {a0 a sp dp n b j : Nat} {P : Int → Prop} (h : P (I b j)) (hz : b = a → dp ≤ j → j < dp + n → P (I a0 (sp + (j - dp)))) : P (cpy I a0 a sp dp n b j) := by
  by_cases h1 : b = a
  · subst h1
    rw [cpy_at]
    dsimp only
    split
    · exact hz rfl (by omega) (by omega)
    · exact h
  · rw [cpy_ne h1]; exact h
theorem WfM_s {I : II} {j : Nat} {z : Int} (h : WfM I) (c0 : j = 0 → 2 ≤ z ∧ z ≤ 8) (c1 : j = 1 → 0 ≤ z ∧ z ≤ 25) (c2 : j = 2 → 0 ≤ z ∧ z < 256) (c3 : ∀ p : Nat, p < 25 → j = 15 + 10 * p → 0 ≤ z ∧ z ≤ 99) (c4 : ∀ p : Nat, p < 25 → j = 16 + 10 * p → 0 ≤ z ∧ z ≤ 8) (c5 : ∀ p k : Nat, p < 25 → k < 8 → j = 17 + 10 * p + k → 0 ≤ z ∧ z < 8) (c6 : ∀ k : Nat, k < 8 → j = 7 + k → 0 ≤ z ∧ z < 8) (c7 : j = 3 → 0 ≤ z ∧ z ≤ 3) (c8 : j = 4 → 0 ≤ z ∧ z ≤ 1) (c9 : j = 5 → 0 ≤ z ∧ z ≤ 1) (c10 : j = 6 → 1 ≤ z ∧ z ≤ 7) : WfM (up I 509 j z) := by
  obtain ⟨w0, w1, w2, w3, w4, w5, w6, w7, w8, w9, w10⟩ := h
  refine ⟨up_p (P := fun y => 2 ≤ y ∧ y ≤ 8) w0 (fun _ e => c0 e.symm), up_p (P := fun y => 0 ≤ y ∧ y ≤ 25) w1 (fun _ e => c1 e.symm), up_p (P := fun y => 0 ≤ y ∧ y < 256) w2 (fun _ e => c2 e.symm), fun p hp => ?_, fun p hp => ?_, fun p k hp hk => ?_, fun k hk => ?_, up_p (P := fun y => 0 ≤ y ∧ y ≤ 3) w7 (fun _ e => c7 e.symm), up_p (P := fun y => 0 ≤ y ∧ y ≤ 1) w8 (fun _ e => c8 e.symm), up_p (P := fun y => 0 ≤ y ∧ y ≤ 1) w9 (fun _ e => c9 e.symm), up_p (P := fun y => 1 ≤ y ∧ y ≤ 7) w10 (fun _ e => c10 e.symm)⟩
  · exact up_p (P := fun y => 0 ≤ y ∧ y ≤ 99) (w3 p hp) (fun _ e => c3 p hp e.symm)
  · exact up_p (P := fun y => 0 ≤ y ∧ y ≤ 8) (w4 p hp) (fun _ e => c4 p hp e.symm)
  · exact up_p (P := fun y => 0 ≤ y ∧ y < 8) (w5 p k hp hk) (fun _ e => c5 p k hp hk e.symm)
  · exact up_p (P := fun y => 0 ≤ y ∧ y < 8) (w6 k hk) (fun _ e => c6 k hk e.symm)
theorem WfM_size {I : II} {p : Nat} {z : Int} (h : WfM I) (hp : p < 25) (hz : 0 ≤ z ∧ z ≤ 99) : WfM (up I 509 (15 + 10 * p) z) :=
  WfM_s h (fun e => by omega) (fun e => by omega) (fun e => by omega) (fun _ _ _ => hz) (fun q hq e => by omega) (fun q k hq hk e => by omega) (fun k hk e => by omega) (fun e => by omega) (fun e => by omega) (fun e => by omega) (fun e => by omega)
theorem WfM_len {I : II} {p : Nat} {z : Int} (h : WfM I) (hp : p < 25) (hz : 0 ≤ z ∧ z ≤ 8) : WfM (up I 509 (16 + 10 * p) z) :=
  WfM_s h (fun e => by omega) (fun e => by omega) (fun e => by omega) (fun q hq e => by omega) (fun _ _ _ => hz) (fun q k hq hk e => by omega) (fun k hk e => by omega) (fun e => by omega) (fun e => by omega) (fun e => by omega) (fun e => by omega)
theorem WfM_rank {I : II} {p k : Nat} {z : Int} (h : WfM I) (hp : p < 25) (hk : k < 8) (hz : 0 ≤ z ∧ z < 8) : WfM (up I 509 (17 + 10 * p + k) z) :=
  WfM_s h (fun e => by omega) (fun e => by omega) (fun e => by omega) (fun q hq e => by omega) (fun q hq e => by omega) (fun _ _ _ _ _ => hz) (fun k hk e => by omega) (fun e => by omega) (fun e => by omega) (fun e => by omega) (fun e => by omega)
theorem WfM_cr {I : II} {p n : Nat} (h : WfM I) (hp : p < 25) (hn : n ≤ 8) (hr : ∀ k, k < 8 → 0 ≤ I 514 k ∧ I 514 k < 8) : WfM (cpy I 514 509 0 (17 + 10 * p) n) := by
  obtain ⟨w0, w1, w2, w3, w4, w5, w6, w7, w8, w9, w10⟩ := h
  refine ⟨cpy_p (P := fun y => 2 ≤ y ∧ y ≤ 8) w0 (fun _ _ _ => by omega), cpy_p (P := fun y => 0 ≤ y ∧ y ≤ 25) w1 (fun _ _ _ => by omega), cpy_p (P := fun y => 0 ≤ y ∧ y < 256) w2 (fun _ _ _ => by omega), fun q hq => ?_, fun q hq => ?_, fun q k hq hk => ?_, fun k hk => ?_, cpy_p (P := fun y => 0 ≤ y ∧ y ≤ 3) w7 (fun _ _ _ => by omega), cpy_p (P := fun y => 0 ≤ y ∧ y ≤ 1) w8 (fun _ _ _ => by omega), cpy_p (P := fun y => 0 ≤ y ∧ y ≤ 1) w9 (fun _ _ _ => by omega), cpy_p (P := fun y => 1 ≤ y ∧ y ≤ 7) w10 (fun _ _ _ => by omega)⟩
  · exact cpy_p (P := fun y => 0 ≤ y ∧ y ≤ 99) (w3 q hq) (fun _ _ _ => by omega)
  · exact cpy_p (P := fun y => 0 ≤ y ∧ y ≤ 8) (w4 q hq) (fun _ _ _ => by omega)
  · exact cpy_p (P := fun y => 0 ≤ y ∧ y < 8) (w5 q k hq hk) (fun _ h1 h2 => hr _ (by omega))
  · exact cpy_p (P := fun y => 0 ≤ y ∧ y < 8) (w6 k hk) (fun _ h1 h2 => by omega)
theorem WfM_cl {I : II} {n : Nat} (h : WfM I) (hn : n ≤ 8) (hr : ∀ k, k < 8 → 0 ≤ I 514 k ∧ I 514 k < 8) : WfM (cpy I 514 509 0 7 n) := by
  obtain ⟨w0, w1, w2, w3, w4, w5, w6, w7, w8, w9, w10⟩ := h
  refine ⟨cpy_p (P := fun y => 2 ≤ y ∧ y ≤ 8) w0 (fun _ _ _ => by omega), cpy_p (P := fun y => 0 ≤ y ∧ y ≤ 25) w1 (fun _ _ _ => by omega), cpy_p (P := fun y => 0 ≤ y ∧ y < 256) w2 (fun _ _ _ => by omega), fun q hq => ?_, fun q hq => ?_, fun q k hq hk => ?_, fun k hk => ?_, cpy_p (P := fun y => 0 ≤ y ∧ y ≤ 3) w7 (fun _ _ _ => by omega), cpy_p (P := fun y => 0 ≤ y ∧ y ≤ 1) w8 (fun _ _ _ => by omega), cpy_p (P := fun y => 0 ≤ y ∧ y ≤ 1) w9 (fun _ _ _ => by omega), cpy_p (P := fun y => 1 ≤ y ∧ y ≤ 7) w10 (fun _ _ _ => by omega)⟩
  · exact cpy_p (P := fun y => 0 ≤ y ∧ y ≤ 99) (w3 q hq) (fun _ _ _ => by omega)
  · exact cpy_p (P := fun y => 0 ≤ y ∧ y ≤ 8) (w4 q hq) (fun _ _ _ => by omega)
  · exact cpy_p (P := fun y => 0 ≤ y ∧ y < 8) (w5 q k hq hk) (fun _ h1 h2 => by omega)
  · exact cpy_p (P := fun y => 0 ≤ y ∧ y < 8) (w6 k hk) (fun _ h1 h2 => hr _ (by omega))
/-- the model while it reads: place, length, isWrong, the text, the ranking -/
def TX (J : II) : Prop := MI J ∧ (0 ≤ J 508 9 ∧ J 508 9 ≤ J 508 8 ∧ J 508 8 ≤ 60) ∧ (J 508 10 = 0 ∨ J 508 10 = 1) ∧ (∀ k, k < 60 → 0 ≤ J 513 k ∧ J 513 k ≤ 126) ∧ (∀ k, k < 8 → 0 ≤ J 514 k ∧ J 514 k < 8) ∧ (0 ≤ J 508 13 ∧ J 508 13 ≤ 8) ∧ J 509 1 ≤ 24
def hrM (J : II) : Int := if J 508 9 < J 508 8 then J 513 (J 508 9).toNat else 0
def wgM (J : II) (w : Int) : II := if J 508 10 = 0 then up (up J 508 10 1) 508 9 w else J
def pcM (J : II) : II := up J 508 9 (J 508 9 + 1)
def wtI (J : II) (s : Int) : II := if hrM J = s then J else wgM J (J 508 9)
def wtM (J : II) (s : Int) : II := if wtI J s 508 10 = 0 then pcM (wtI J s) else wtI J s
def nuR (J : II) : Int × II := if ¬ J 508 10 = 0 ∨ hrM J < 48 ∨ 57 < hrM J then (0, wgM J (J 508 9)) else if hrM J - 48 ≤ 0 ∨ hrM (pcM J) < 48 ∨ 57 < hrM (pcM J) then (hrM J - 48, pcM J) else (10 * (hrM J - 48) + hrM (pcM J) - 48, pcM (pcM J))
def kpR (J : II) : Int × II := if (nuR J).2 508 10 = 0 ∧ inF (nuR J).1 0 ((nuR J).2 509 1 - 1) = 0 then ((nuR J).1, wgM (nuR J).2 (J 508 9)) else nuR J
def rrN (J : II) : II := pcM (up (up J 514 (J 508 13).toNat (hrM J - 97)) 508 13 (J 508 13 + 1))
def rrL : Nat → Nat → II → Option II
  | 0, _, _ => none
  | f + 1, s, J => if ¬ J 508 10 = 0 then some J else if inF (hrM J - 97) 0 (J 509 0 - 1) = 0 ∨ btI s (hrM J - 97).toNat = 1 then (if hrM (wgM J (J 508 9)) = 59 then some (wgM J (J 508 9)) else rrL f s (wgM J (J 508 9))) else if J 508 13 < 8 then (if hrM (rrN J) = 59 then some (rrN J) else rrL f (s ||| 2 ^ (hrM J - 97).toNat) (rrN J)) else none
def rrO (J : II) : Option II := rrL 12 0 (up J 508 13 0)
def srM (J : II) (p : Nat) : II := cpy (up J 509 (16 + 10 * p) (J 508 13)) 514 509 0 (17 + 10 * p) (J 508 13).toNat
theorem hr_rng {J : II} (h : TX J) : 0 ≤ hrM J ∧ hrM J ≤ 126 := by
  obtain ⟨h1, h2, h3, h4, h5⟩ := h
  unfold hrM
  split
  · exact h4 _ (by omega)
  · omega
theorem hr_lt {J : II} (h : ¬ hrM J = 0) : J 508 9 < J 508 8 := by
  by_cases h2 : J 508 9 < J 508 8
  · exact h2
  · exact (h (if_neg h2)).elim
theorem TX_8 {J : II} {k : Nat} {z : Int} (h : TX J) (hz : -2147483648 ≤ z ∧ z < 2147483648) (h9 : k = 9 → 0 ≤ z ∧ z ≤ J 508 8) (h8 : k ≠ 8) (h10 : k = 10 → z = 0 ∨ z = 1) (h13 : k = 13 → 0 ≤ z ∧ z ≤ 8) : TX (up J 508 k z) := by
  obtain ⟨h1, h2, h3, h4, h5, h6, h7⟩ := h
  refine ⟨MI_up h1 (by omega) hz, ?_, up_p (P := fun y => y = 0 ∨ y = 1) h3 (fun _ e => h10 e.symm), fun q hq => by rw [up_ne (by omega)]; exact h4 q hq, fun q hq => by rw [up_ne (by omega)]; exact h5 q hq, up_p (P := fun y => 0 ≤ y ∧ y ≤ 8) h6 (fun _ e => h13 e.symm), by rw [up_ne (by omega)]; exact h7⟩
  rw [up_nk (j := 8) (fun e => h8 e.symm)]
  by_cases e : k = 9
  · subst e
    have := h9 rfl
    rw [up_eq]
    omega
  · rw [up_nk (fun e2 => e e2.symm)]
    exact h2
theorem TX_wg {J : II} {w : Int} (h : TX J) (hw : 0 ≤ w ∧ w ≤ J 508 8) : TX (wgM J w) := by
  have h2 := h.2.1
  unfold wgM
  split
  · exact TX_8 (TX_8 h (by omega) (by omega) (by omega) (by omega) (by omega)) (by omega) (fun _ => by rw [up_nk (by omega)]; exact hw) (by omega) (by omega) (by omega)
  · exact h
theorem TX_pc {J : II} (h : TX J) (hl : J 508 9 < J 508 8) : TX (pcM J) := by
  have h2 := h.2.1
  exact TX_8 h (by omega) (fun _ => by omega) (by omega) (by omega) (by omega)
theorem wg_s {J : II} {w : Int} {x : Nat} (hx : x ≠ 508) : wgM J w x = J x := by
  unfold wgM
  split
  · rw [up_ne hx, up_ne hx]
  · rfl
theorem wg_f {J : II} {w : Int} {k : Nat} (h9 : k ≠ 9) (h10 : k ≠ 10) : wgM J w 508 k = J 508 k := by
  unfold wgM
  split
  · rw [up_nk h9, up_nk h10]
  · rfl
theorem wg_1 {J : II} {w : Int} (h : TX J) : wgM J w 508 10 = 1 := by
  have h3 := h.2.2.1
  unfold wgM
  split
  · rw [up_nk (by omega), up_eq]
  · omega
theorem TX_wtI {J : II} {s : Int} (h : TX J) : TX (wtI J s) := by
  unfold wtI
  split
  · exact h
  · exact TX_wg h (by have := h.2.1; omega)
theorem TX_wt {J : II} {s : Int} (h : TX J) (hs : 0 < s) : TX (wtM J s) := by
  have h2 := TX_wtI (s := s) h
  unfold wtM
  split
  · rename_i h0
    refine TX_pc h2 ?_
    unfold wtI at h0 ⊢
    split
    · exact hr_lt (by omega)
    · rename_i hn
      rw [if_neg hn, wg_1 h] at h0
      omega
  · exact h2
theorem pc_s {J : II} {x : Nat} (hx : x ≠ 508) : pcM J x = J x := up_ne hx
theorem wt_s {J : II} {s : Int} {x : Nat} (hx : x ≠ 508) : wtM J s x = J x := by
  have : wtI J s x = J x := by
    unfold wtI
    split
    · rfl
    · exact wg_s hx
  unfold wtM
  split
  · rw [pc_s hx, this]
  · exact this
theorem nu_s {J : II} {x : Nat} (hx : x ≠ 508) : (nuR J).2 x = J x := by
  unfold nuR
  split
  · exact wg_s hx
  · split
    · exact pc_s hx
    · exact (pc_s hx).trans (pc_s hx)
theorem nu_rng {J : II} (h : TX J) : 0 ≤ (nuR J).1 ∧ (nuR J).1 ≤ 99 := by
  unfold nuR
  split
  · show 0 ≤ (0 : Int) ∧ (0 : Int) ≤ 99
    decide
  · split
    · dsimp only; omega
    · dsimp only; omega
theorem TX_nu {J : II} (h : TX J) : TX (nuR J).2 := by
  unfold nuR
  split
  · exact TX_wg h (by have := h.2.1; omega)
  · have h2 := TX_pc h (hr_lt (by omega))
    split
    · exact h2
    · exact TX_pc h2 (hr_lt (by omega))
theorem pc_f {J : II} {k : Nat} (h : k ≠ 9) : pcM J 508 k = J 508 k := up_nk h
theorem nu_f {J : II} {k : Nat} (h9 : k ≠ 9) (h10 : k ≠ 10) : (nuR J).2 508 k = J 508 k := by
  unfold nuR
  split
  · exact wg_f h9 h10
  · split
    · exact pc_f h9
    · exact (pc_f h9).trans (pc_f h9)
theorem TX_kp {J : II} (h : TX J) : TX (kpR J).2 := by
  have h2 := TX_nu h
  have h9 := h.2.1
  unfold kpR
  split
  · exact TX_wg h2 (by rw [nu_f (by omega) (by omega)]; omega)
  · exact h2
theorem kp_s {J : II} {x : Nat} (hx : x ≠ 508) : (kpR J).2 x = J x := by
  unfold kpR
  split
  · exact (wg_s hx).trans (nu_s hx)
  · exact nu_s hx
theorem kp_rng {J : II} (h : TX J) : 0 ≤ (kpR J).1 ∧ (kpR J).1 ≤ 99 := by
  have := nu_rng h
  unfold kpR
  split <;> exact this
/-- a pile number that is not wrong is a pile's -/
theorem kp_ok {J : II} (h : TX J) (h0 : (kpR J).2 508 10 = 0) : (kpR J).1 < J 509 1 := by
  unfold kpR at h0 ⊢
  split
  · rename_i hc
    rw [if_pos hc] at h0
    replace h0 : wgM (nuR J).2 (J 508 9) 508 10 = 0 := h0
    rw [wg_1 (TX_nu h)] at h0
    omega
  · rename_i hc
    rw [if_neg hc] at h0
    have h1 : ¬ inF (nuR J).1 0 ((nuR J).2 509 1 - 1) = 0 := fun e => hc ⟨h0, e⟩
    have h2 := inF_1.mp h1
    rw [nu_s (by omega)] at h2
    omega
theorem TX_rrN {J : II} (h : TX J) (hc : 0 ≤ hrM J - 97 ∧ hrM J - 97 < 8) (h8 : J 508 13 < 8) : TX (rrN J) := by
  have hl := hr_lt (J := J) (by omega)
  obtain ⟨h1, h2, h3, h4, h5, h6, h7⟩ := id h
  have hA : TX (up J 514 (J 508 13).toNat (hrM J - 97)) := ⟨MI_up h1 (by omega) (by omega), by rw [up_ne (by omega)]; exact h2, by rw [up_ne (by omega)]; exact h3, fun q hq => by rw [up_ne (by omega)]; exact h4 q hq, fun q hq => up_p (P := fun y => 0 ≤ y ∧ y < 8) (h5 q hq) (fun _ _ => hc), by rw [up_ne (by omega)]; exact h6, by rw [up_ne (by omega)]; exact h7⟩
  have e : up J 514 (J 508 13).toNat (hrM J - 97) 508 = J 508 := up_ne (by omega)
  unfold rrN
  exact TX_pc (TX_8 hA (by omega) (by omega) (by omega) (by omega) (by omega)) (by rw [up_nk (by omega), up_nk (by omega), e]; exact hl)
theorem rrN_s {J : II} {x : Nat} (hx : x ≠ 508) (hx2 : x ≠ 514) : rrN J x = J x := by
  unfold rrN
  rw [pc_s hx, up_ne hx, up_ne hx2]
theorem rr_ok {K : II} : ∀ (f s : Nat) (J : II), rrL f s J = some K → TX J → TX K ∧ ∀ x, x ≠ 508 → x ≠ 514 → K x = J x
  | 0, _, _, h, _ => by cases h
  | f + 1, s, J, h, hT => by
    have hw : TX (wgM J (J 508 9)) := TX_wg hT (by have := hT.2.1; omega)
    have w0 := hT.1.1.1
    unfold rrL at h
    split at h
    · obtain rfl : J = K := by simpa using h
      exact ⟨hT, fun _ _ _ => rfl⟩
    · split at h
      · split at h
        · obtain rfl : wgM J (J 508 9) = K := by simpa using h
          exact ⟨hw, fun x hx _ => wg_s hx⟩
        · obtain ⟨h1, h2⟩ := rr_ok f s _ h hw
          exact ⟨h1, fun x hx hx2 => (h2 x hx hx2).trans (wg_s hx)⟩
      · rename_i hc
        have hi := inF_1.mp (fun e => hc (Or.inl e))
        split at h
        · rename_i h8
          have hN := TX_rrN hT (by omega) h8
          split at h
          · obtain rfl : rrN J = K := by simpa using h
            exact ⟨hN, fun x hx hx2 => rrN_s hx hx2⟩
          · obtain ⟨h1, h2⟩ := rr_ok f _ _ h hN
            exact ⟨h1, fun x hx hx2 => (h2 x hx hx2).trans (rrN_s hx hx2)⟩
        · cases h
theorem TX_r0 {J : II} (h : TX J) : TX (up J 508 13 0) := TX_8 h (by omega) (by omega) (by omega) (by omega) (by omega)
theorem TX_rr {J K : II} (h : TX J) (hK : rrO J = some K) : TX K ∧ ∀ x, x ≠ 508 → x ≠ 514 → K x = J x := by
  obtain ⟨h1, h2⟩ := rr_ok 12 0 _ hK (TX_r0 h)
  exact ⟨h1, fun x hx hx2 => (h2 x hx hx2).trans (up_ne hx)⟩
theorem sr_e {J : II} {p x : Nat} (hx : x ≠ 509) : srM J p x = J x := by
  unfold srM
  rw [cpy_ne hx, up_ne hx]
theorem TX_9 {J K : II} (h : TX J) (hM : MI K) (he : ∀ x, x ≠ 509 → K x = J x) (h24 : K 509 1 ≤ 24) : TX K := by
  obtain ⟨h1, h2, h3, h4, h5, h6, h7⟩ := h
  exact ⟨hM, by rw [he 508 (by omega)]; exact h2, by rw [he 508 (by omega)]; exact h3, fun k hk => by rw [he 513 (by omega)]; exact h4 k hk, fun k hk => by rw [he 514 (by omega)]; exact h5 k hk, by rw [he 508 (by omega)]; exact h6, h24⟩
theorem TX_sr {J : II} {p : Nat} (h : TX J) (hp : p < 25) : TX (srM J p) := by
  have h1 := h.1
  have h6 := h.2.2.2.2.2.1
  have h5 := h.2.2.2.2.1
  refine TX_9 h ⟨?_, ?_⟩ (fun x hx => sr_e hx) ?_
  · exact WfM_cr (WfM_len h1.1 hp h6) hp (by omega) (fun k hk => by rw [up_ne (by omega)]; exact h5 k hk)
  · exact rg_cpy (rg_up h1.2 (by omega))
  · unfold srM
    rw [cpy_at]
    dsimp only
    rw [if_neg (by omega), up_nk (by omega)]
    exact h.2.2.2.2.2.2

set_option maxRecDepth 100000 in
set_option maxHeartbeats 4000000 in
theorem k_here {l : Launch} {g : GV} {S : SS} {I : II} {X : XX} (hfl : l.stackTraces = false) (hM : isMod S) (hT : TX I) : CE l g mX9_here 0 [.ref 508] S I X (some (.int (ii (hrM I)))) I := by
  obtain ⟨m0, ⟨p509, q509⟩, ⟨p510, q510⟩, ⟨p511, q511⟩, ⟨p512, q512⟩, ⟨p513, q513⟩, ⟨p514, q514⟩, ⟨p515, q515⟩, ⟨p516, q516⟩, ⟨p517, q517⟩, ⟨p518, q518⟩, ⟨p519, q519⟩, ⟨p520, q520⟩, ⟨p521, q521⟩, ⟨p522, q522⟩, ⟨p523, q523⟩, ⟨p524, q524⟩, ⟨p525, q525⟩, ⟨p526, q526⟩, ⟨p527, q527⟩, ⟨p528, q528⟩, ⟨p529, q529⟩, ⟨p530, q530⟩, ⟨p531, q531⟩, ⟨p532, q532⟩, ⟨p533, q533⟩, ⟨p534, q534⟩, ⟨p535, q535⟩, ⟨p536, q536⟩, ⟨p537, q537⟩, ⟨p538, q538⟩, ⟨p539, q539⟩, ⟨p540, q540⟩⟩ := id hM
  obtain ⟨t1, t2, t3, t4, t5, t6, t7⟩ := id hT
  have hMI := t1
  obtain ⟨w0, w1, w2, w3, w4, w5, w6, w7, w8, w9, w10⟩ := id hMI.1
  refine v_startE hfl rfl (by decide) (Nat.le_of_ble_eq_true rfl) (ls := [some (.ref 508)]) rfl ?_
  refine v_aload_n dX9_here_0 rfl ?_
  refine v_geti dX9_here_1 fr_X9_145 (by assumption) (by decide) rfl ?_
  refine v_aload_n dX9_here_4 rfl ?_
  refine v_geti dX9_here_5 fr_X9_142 (by assumption) (by decide) rfl ?_
  refine v_ic_ge (tgt := 23) dX9_here_8 (by decide) (fun h8 => ?_) (fun h8 => ?_)
  · refine v_iconst dX9_here_23 ?_
    exact v_iE dX9_here_24 rfl (by unfold hrM; first | exact (if_pos (by omega)).symm | exact (if_neg (by omega)).symm) (rfl)
  · refine v_aload_n dX9_here_11 rfl ?_
    refine v_getr dX9_here_12 fr_X9_22 (by assumption) (by decide) rfl (by assumption) ?_
    refine v_aload_n dX9_here_15 rfl ?_
    refine v_geti dX9_here_16 fr_X9_145 (by assumption) (by decide) rfl ?_
    refine v_iald (j := (I 508 9).toNat) dX9_here_19 (by assumption) (by omega) (by omega) ?_
    refine v_goto (tgt := 24) dX9_here_20 (by decide) ?_
    exact v_iE dX9_here_24 rfl (by unfold hrM; first | exact (if_pos (by omega)).symm | exact (if_neg (by omega)).symm) (rfl)

set_option maxRecDepth 100000 in
set_option maxHeartbeats 4000000 in
theorem k_wrongAt {l : Launch} {g : GV} {S : SS} {I : II} {X : XX} {w : Int} (hfl : l.stackTraces = false) (hM : isMod S) (hT : TX I) : CE l g mX9_wrongAt 0 [.ref 508, .int (ii w)] S I X none (wgM I w) := by
  obtain ⟨m0, ⟨p509, q509⟩, ⟨p510, q510⟩, ⟨p511, q511⟩, ⟨p512, q512⟩, ⟨p513, q513⟩, ⟨p514, q514⟩, ⟨p515, q515⟩, ⟨p516, q516⟩, ⟨p517, q517⟩, ⟨p518, q518⟩, ⟨p519, q519⟩, ⟨p520, q520⟩, ⟨p521, q521⟩, ⟨p522, q522⟩, ⟨p523, q523⟩, ⟨p524, q524⟩, ⟨p525, q525⟩, ⟨p526, q526⟩, ⟨p527, q527⟩, ⟨p528, q528⟩, ⟨p529, q529⟩, ⟨p530, q530⟩, ⟨p531, q531⟩, ⟨p532, q532⟩, ⟨p533, q533⟩, ⟨p534, q534⟩, ⟨p535, q535⟩, ⟨p536, q536⟩, ⟨p537, q537⟩, ⟨p538, q538⟩, ⟨p539, q539⟩, ⟨p540, q540⟩⟩ := id hM
  obtain ⟨t1, t2, t3, t4, t5, t6, t7⟩ := id hT
  have hMI := t1
  obtain ⟨w0, w1, w2, w3, w4, w5, w6, w7, w8, w9, w10⟩ := id hMI.1
  refine v_startE hfl rfl (by decide) (Nat.le_of_ble_eq_true rfl) (ls := [some (.ref 508), some (.int (ii w))]) rfl ?_
  refine v_aload_n dX9_wrongAt_0 rfl ?_
  refine v_geti dX9_wrongAt_1 fr_X9_148 (by assumption) (by decide) rfl ?_
  refine v_if_ne (tgt := 17) dX9_wrongAt_4 (by decide) (fun h4 => ?_) (fun h4 => ?_)
  · first
      | exact v_vE dX9_wrongAt_17 rfl (by unfold wgM; rw [if_pos (by omega)])
      | exact v_vE dX9_wrongAt_17 rfl (by unfold wgM; rw [if_neg (by omega)])
  · refine v_aload_n dX9_wrongAt_7 rfl ?_
    refine v_iconst dX9_wrongAt_8 ?_
    refine v_putz dX9_wrongAt_9 fr_X9_148 (by assumption) (by decide) rfl (by first | exact Or.inl rfl | exact Or.inr rfl | omega) ?_
    refine v_aload_n dX9_wrongAt_12 rfl ?_
    refine v_iload_n dX9_wrongAt_13 rfl ?_
    refine v_puti dX9_wrongAt_14 fr_X9_145 (by assumption) (by decide) rfl ?_
    first
      | exact v_vE dX9_wrongAt_17 rfl (by unfold wgM; rw [if_pos (by omega)])
      | exact v_vE dX9_wrongAt_17 rfl (by unfold wgM; rw [if_neg (by omega)])

set_option maxRecDepth 100000 in
set_option maxHeartbeats 4000000 in
theorem k_wants {l : Launch} {g : GV} {S : SS} {I : II} {X : XX} {s : Int} (hfl : l.stackTraces = false) (hM : isMod S) (hT : TX I) (hs : 0 ≤ s ∧ s ≤ 126) : CE l g mX9_wants 1 [.ref 508, .int (ii s)] S I X none (wtM I s) := by
  obtain ⟨m0, ⟨p509, q509⟩, ⟨p510, q510⟩, ⟨p511, q511⟩, ⟨p512, q512⟩, ⟨p513, q513⟩, ⟨p514, q514⟩, ⟨p515, q515⟩, ⟨p516, q516⟩, ⟨p517, q517⟩, ⟨p518, q518⟩, ⟨p519, q519⟩, ⟨p520, q520⟩, ⟨p521, q521⟩, ⟨p522, q522⟩, ⟨p523, q523⟩, ⟨p524, q524⟩, ⟨p525, q525⟩, ⟨p526, q526⟩, ⟨p527, q527⟩, ⟨p528, q528⟩, ⟨p529, q529⟩, ⟨p530, q530⟩, ⟨p531, q531⟩, ⟨p532, q532⟩, ⟨p533, q533⟩, ⟨p534, q534⟩, ⟨p535, q535⟩, ⟨p536, q536⟩, ⟨p537, q537⟩, ⟨p538, q538⟩, ⟨p539, q539⟩, ⟨p540, q540⟩⟩ := id hM
  obtain ⟨t1, t2, t3, t4, t5, t6, t7⟩ := id hT
  have hMI := t1
  obtain ⟨w0, w1, w2, w3, w4, w5, w6, w7, w8, w9, w10⟩ := id hMI.1
  have hI9 : TX (wtI I s) := TX_wtI hT
  obtain ⟨i1, i2, i3, i4⟩ := id hI9
  have M16 : V l g mX9_wants 1 (Zm g (QE none S (wtM I s) X)) 0 0 16 [some (.ref 508), some (.int (ii s))] [] S (wtI I s) X := by
    refine v_aload_n dX9_wants_16 rfl ?_
    refine v_geti dX9_wants_17 fr_X9_148 (by assumption) (by decide) rfl ?_
    refine v_if_ne (tgt := 33) dX9_wants_20 (by decide) (fun h20 => ?_) (fun h20 => ?_)
    · first
        | exact v_vE dX9_wants_33 rfl (by unfold wtM; rw [if_pos (by omega)]; rfl)
        | exact v_vE dX9_wants_33 rfl (by unfold wtM; rw [if_neg (by omega)])
    · refine v_aload_n dX9_wants_23 rfl ?_
      refine v_dup dX9_wants_24 rfl ?_
      refine v_geti dX9_wants_25 fr_X9_145 (by assumption) (by decide) rfl ?_
      refine v_iconst dX9_wants_28 ?_
      refine v_iadd dX9_wants_29 ?_
      refine v_puti dX9_wants_30 fr_X9_145 (by assumption) (by decide) rfl ?_
      first
        | exact v_vE dX9_wants_33 rfl (by unfold wtM; rw [if_pos (by omega)]; rfl)
        | exact v_vE dX9_wants_33 rfl (by unfold wtM; rw [if_neg (by omega)])
  refine v_startE hfl rfl (by decide) (Nat.le_of_ble_eq_true rfl) (ls := [some (.ref 508), some (.int (ii s))]) rfl ?_
  refine v_aload_n dX9_wants_0 rfl ?_
  refine v_cV0 dX9_wants_1 lk_X9_151 (by assumption) (by decide) rfl (k_here hfl hM hT) (by decide) (Nat.le_of_ble_eq_true rfl) ?_ rfl
  refine v_iload_n dX9_wants_4 rfl ?_
  have hh := hr_rng hT
  refine v_ic_eq (tgt := 16) dX9_wants_5 (by decide) (fun h5 => ?_) (fun h5 => ?_)
  · have e9 := M16
    unfold wtI at e9
    first
      | (rw [if_pos (by omega)] at e9; exact e9)
      | (rw [if_neg (by omega)] at e9; exact e9)
  · refine v_aload_n dX9_wants_8 rfl ?_
    refine v_aload_n dX9_wants_9 rfl ?_
    refine v_geti dX9_wants_10 fr_X9_145 (by assumption) (by decide) rfl ?_
    refine v_cV1n dX9_wants_13 lk_X9_155 (by assumption) (by decide) rfl (k_wrongAt hfl hM hT) (by decide) (Nat.le_of_ble_eq_true rfl) ?_ rfl
    have e9 := M16
    unfold wtI at e9
    first
      | (rw [if_pos (by omega)] at e9; exact e9)
      | (rw [if_neg (by omega)] at e9; exact e9)

set_option maxRecDepth 100000 in
set_option maxHeartbeats 4000000 in
theorem k_number {l : Launch} {g : GV} {S : SS} {I : II} {X : XX} (hfl : l.stackTraces = false) (hM : isMod S) (hT : TX I) : CE l g mX9_number 1 [.ref 508] S I X (some (.int (ii ((nuR I).1)))) (nuR I).2 := by
  obtain ⟨m0, ⟨p509, q509⟩, ⟨p510, q510⟩, ⟨p511, q511⟩, ⟨p512, q512⟩, ⟨p513, q513⟩, ⟨p514, q514⟩, ⟨p515, q515⟩, ⟨p516, q516⟩, ⟨p517, q517⟩, ⟨p518, q518⟩, ⟨p519, q519⟩, ⟨p520, q520⟩, ⟨p521, q521⟩, ⟨p522, q522⟩, ⟨p523, q523⟩, ⟨p524, q524⟩, ⟨p525, q525⟩, ⟨p526, q526⟩, ⟨p527, q527⟩, ⟨p528, q528⟩, ⟨p529, q529⟩, ⟨p530, q530⟩, ⟨p531, q531⟩, ⟨p532, q532⟩, ⟨p533, q533⟩, ⟨p534, q534⟩, ⟨p535, q535⟩, ⟨p536, q536⟩, ⟨p537, q537⟩, ⟨p538, q538⟩, ⟨p539, q539⟩, ⟨p540, q540⟩⟩ := id hM
  obtain ⟨t1, t2, t3, t4, t5, t6, t7⟩ := id hT
  have hMI := t1
  obtain ⟨w0, w1, w2, w3, w4, w5, w6, w7, w8, w9, w10⟩ := id hMI.1
  refine v_startE hfl rfl (by decide) (Nat.le_of_ble_eq_true rfl) (ls := [some (.ref 508), none]) rfl ?_
  refine v_aload_n dX9_number_0 rfl ?_
  refine v_geti dX9_number_1 fr_X9_148 (by assumption) (by decide) rfl ?_
  refine v_if_ne (tgt := 21) dX9_number_4 (by decide) (fun h4 => ?_) (fun h4 => ?_)
  · refine v_aload_n dX9_number_21 rfl ?_
    refine v_aload_n dX9_number_22 rfl ?_
    refine v_geti dX9_number_23 fr_X9_145 (by assumption) (by decide) rfl ?_
    refine v_cV1n dX9_number_26 lk_X9_155 (by assumption) (by decide) rfl (k_wrongAt hfl hM hT) (by decide) (Nat.le_of_ble_eq_true rfl) ?_ rfl
    refine v_iconst dX9_number_29 ?_
    first
      | exact v_iE dX9_number_30 rfl (by unfold nuR; rw [if_pos (by omega)]) (by unfold nuR; rw [if_pos (by omega)])
  · refine v_aload_n dX9_number_7 rfl ?_
    refine v_cV0 dX9_number_8 lk_X9_151 (by assumption) (by decide) rfl (k_here hfl hM hT) (by decide) (Nat.le_of_ble_eq_true rfl) ?_ rfl
    have hh := hr_rng hT
    refine v_bipush dX9_number_11 (by decide) ?_
    refine v_bipush dX9_number_13 (by decide) ?_
    refine v_cS3 dX9_number_15 lk_X9_118 (k_in hfl (by omega) (by omega) (by omega)) (by decide) (Nat.le_of_ble_eq_true rfl) ?_ rfl
    have hi := inF_01 (hrM I) 48 57
    have hi1 := @inF_1 (hrM I) 48 57
    refine v_if_ne (tgt := 31) dX9_number_18 (by decide) (fun h18 => ?_) (fun h18 => ?_)
    · refine v_aload_n dX9_number_31 rfl ?_
      refine v_cV0 dX9_number_32 lk_X9_151 (by assumption) (by decide) rfl (k_here hfl hM hT) (by decide) (Nat.le_of_ble_eq_true rfl) ?_ rfl
      refine v_bipush dX9_number_35 (by decide) ?_
      refine v_isub dX9_number_37 ?_
      have hP : TX (pcM I) := TX_pc hT (hr_lt (by omega))
      have hh2 := hr_rng hP
      refine v_istn1 dX9_number_38 rfl ?_
      refine v_aload_n dX9_number_39 rfl ?_
      refine v_dup dX9_number_40 rfl ?_
      refine v_geti dX9_number_41 fr_X9_145 (by assumption) (by decide) rfl ?_
      refine v_iconst dX9_number_44 ?_
      refine v_iadd dX9_number_45 ?_
      refine v_puti dX9_number_46 fr_X9_145 (by assumption) (by decide) rfl ?_
      rw [show up I 508 9 (I 508 9 + 1) = pcM I from rfl]
      refine v_iload_n dX9_number_49 rfl ?_
      refine v_if_le (tgt := 90) dX9_number_50 (by decide) (fun h50 => ?_) (fun h50 => ?_)
      · refine v_iload_n dX9_number_90 rfl ?_
        first
          | exact v_iE dX9_number_91 rfl (by unfold nuR; rw [if_neg (by omega), if_pos (by omega)]) (by unfold nuR; rw [if_neg (by omega), if_pos (by omega)]; first | done | rfl)
          | exact v_iE dX9_number_91 rfl (by unfold nuR; rw [if_neg (by omega), if_neg (by omega)]) (by unfold nuR; rw [if_neg (by omega), if_neg (by omega)]; first | done | rfl)
      · refine v_aload_n dX9_number_53 rfl ?_
        refine v_cV0 dX9_number_54 lk_X9_151 (by assumption) (by decide) rfl (k_here hfl hM hP) (by decide) (Nat.le_of_ble_eq_true rfl) ?_ rfl
        refine v_bipush dX9_number_57 (by decide) ?_
        refine v_bipush dX9_number_59 (by decide) ?_
        refine v_cS3 dX9_number_61 lk_X9_118 (k_in hfl (by omega) (by omega) (by omega)) (by decide) (Nat.le_of_ble_eq_true rfl) ?_ rfl
        have hi := inF_01 (hrM (pcM I)) 48 57
        have hi1 := @inF_1 (hrM (pcM I)) 48 57
        refine v_if_eq (tgt := 90) dX9_number_64 (by decide) (fun h64 => ?_) (fun h64 => ?_)
        · refine v_iload_n dX9_number_90 rfl ?_
          first
            | exact v_iE dX9_number_91 rfl (by unfold nuR; rw [if_neg (by omega), if_pos (by omega)]) (by unfold nuR; rw [if_neg (by omega), if_pos (by omega)]; first | done | rfl)
            | exact v_iE dX9_number_91 rfl (by unfold nuR; rw [if_neg (by omega), if_neg (by omega)]) (by unfold nuR; rw [if_neg (by omega), if_neg (by omega)]; first | done | rfl)
        · refine v_bipush dX9_number_67 (by decide) ?_
          refine v_iload_n dX9_number_69 rfl ?_
          refine v_imul dX9_number_70 ?_
          refine v_aload_n dX9_number_71 rfl ?_
          refine v_cV0 dX9_number_72 lk_X9_151 (by assumption) (by decide) rfl (k_here hfl hM hP) (by decide) (Nat.le_of_ble_eq_true rfl) ?_ rfl
          refine v_iadd dX9_number_75 ?_
          refine v_bipush dX9_number_76 (by decide) ?_
          refine v_isub dX9_number_78 ?_
          refine v_istn1 dX9_number_79 rfl ?_
          refine v_aload_n dX9_number_80 rfl ?_
          refine v_dup dX9_number_81 rfl ?_
          refine v_geti dX9_number_82 fr_X9_145 (by assumption) (by decide) rfl ?_
          refine v_iconst dX9_number_85 ?_
          refine v_iadd dX9_number_86 ?_
          refine v_puti dX9_number_87 fr_X9_145 (by assumption) (by decide) rfl ?_
          refine v_iload_n dX9_number_90 rfl ?_
          first
            | exact v_iE dX9_number_91 rfl (by unfold nuR; rw [if_neg (by omega), if_pos (by omega)]) (by unfold nuR; rw [if_neg (by omega), if_pos (by omega)]; first | done | rfl)
            | exact v_iE dX9_number_91 rfl (by unfold nuR; rw [if_neg (by omega), if_neg (by omega)]) (by unfold nuR; rw [if_neg (by omega), if_neg (by omega)]; first | done | rfl)
    · refine v_aload_n dX9_number_21 rfl ?_
      refine v_aload_n dX9_number_22 rfl ?_
      refine v_geti dX9_number_23 fr_X9_145 (by assumption) (by decide) rfl ?_
      refine v_cV1n dX9_number_26 lk_X9_155 (by assumption) (by decide) rfl (k_wrongAt hfl hM hT) (by decide) (Nat.le_of_ble_eq_true rfl) ?_ rfl
      refine v_iconst dX9_number_29 ?_
      first
        | exact v_iE dX9_number_30 rfl (by unfold nuR; rw [if_pos (by omega)]) (by unfold nuR; rw [if_pos (by omega)])

set_option maxRecDepth 100000 in
set_option maxHeartbeats 4000000 in
theorem k_knownPile {l : Launch} {g : GV} {S : SS} {I : II} {X : XX} (hfl : l.stackTraces = false) (hM : isMod S) (hT : TX I) : CE l g mX9_knownPile 2 [.ref 508] S I X (some (.int (ii ((kpR I).1)))) (kpR I).2 := by
  obtain ⟨m0, ⟨p509, q509⟩, ⟨p510, q510⟩, ⟨p511, q511⟩, ⟨p512, q512⟩, ⟨p513, q513⟩, ⟨p514, q514⟩, ⟨p515, q515⟩, ⟨p516, q516⟩, ⟨p517, q517⟩, ⟨p518, q518⟩, ⟨p519, q519⟩, ⟨p520, q520⟩, ⟨p521, q521⟩, ⟨p522, q522⟩, ⟨p523, q523⟩, ⟨p524, q524⟩, ⟨p525, q525⟩, ⟨p526, q526⟩, ⟨p527, q527⟩, ⟨p528, q528⟩, ⟨p529, q529⟩, ⟨p530, q530⟩, ⟨p531, q531⟩, ⟨p532, q532⟩, ⟨p533, q533⟩, ⟨p534, q534⟩, ⟨p535, q535⟩, ⟨p536, q536⟩, ⟨p537, q537⟩, ⟨p538, q538⟩, ⟨p539, q539⟩, ⟨p540, q540⟩⟩ := id hM
  obtain ⟨t1, t2, t3, t4, t5, t6, t7⟩ := id hT
  have hMI := t1
  obtain ⟨w0, w1, w2, w3, w4, w5, w6, w7, w8, w9, w10⟩ := id hMI.1
  refine v_startE hfl rfl (by decide) (Nat.le_of_ble_eq_true rfl) (ls := [some (.ref 508), none, none]) rfl ?_
  refine v_aload_n dX9_knownPile_0 rfl ?_
  refine v_geti dX9_knownPile_1 fr_X9_145 (by assumption) (by decide) rfl ?_
  refine v_istn1 dX9_knownPile_4 rfl ?_
  refine v_aload_n dX9_knownPile_5 rfl ?_
  refine v_cV0 dX9_knownPile_6 lk_X9_158 (by assumption) (by decide) rfl (k_number hfl hM hT) (by decide) (Nat.le_of_ble_eq_true rfl) ?_ rfl
  refine v_istn2 dX9_knownPile_9 rfl ?_
  have hN := TX_nu hT
  have hnr := nu_rng hT
  have n3 := hN.2.2.1
  have hi := inF_01 (nuR I).1 0 ((nuR I).2 509 1 - 1)
  refine v_aload_n dX9_knownPile_10 rfl ?_
  refine v_geti dX9_knownPile_11 fr_X9_148 (by assumption) (by decide) rfl ?_
  refine v_if_ne (tgt := 30) dX9_knownPile_14 (by decide) (fun h14 => ?_) (fun h14 => ?_)
  · refine v_iload_n dX9_knownPile_30 rfl ?_
    first
      | exact v_iE dX9_knownPile_31 rfl (by unfold kpR; rw [if_pos (by omega)]) (by unfold kpR; rw [if_pos (by omega)])
      | exact v_iE dX9_knownPile_31 rfl (by unfold kpR; rw [if_neg (by omega)]) (by unfold kpR; rw [if_neg (by omega)])
  · refine v_aload_n dX9_knownPile_17 rfl ?_
    refine v_iload_n dX9_knownPile_18 rfl ?_
    refine v_cV1 dX9_knownPile_19 lk_X9_161 (by assumption) (by decide) rfl (k_isPile hfl hM hN.1.1 (by omega)) (by decide) (Nat.le_of_ble_eq_true rfl) ?_ rfl
    refine v_if_ne (tgt := 30) dX9_knownPile_22 (by decide) (fun h22 => ?_) (fun h22 => ?_)
    · refine v_iload_n dX9_knownPile_30 rfl ?_
      first
        | exact v_iE dX9_knownPile_31 rfl (by unfold kpR; rw [if_pos (by omega)]) (by unfold kpR; rw [if_pos (by omega)])
        | exact v_iE dX9_knownPile_31 rfl (by unfold kpR; rw [if_neg (by omega)]) (by unfold kpR; rw [if_neg (by omega)])
    · refine v_aload_n dX9_knownPile_25 rfl ?_
      refine v_iload_n dX9_knownPile_26 rfl ?_
      refine v_cV1n dX9_knownPile_27 lk_X9_155 (by assumption) (by decide) rfl (k_wrongAt hfl hM hN) (by decide) (Nat.le_of_ble_eq_true rfl) ?_ rfl
      refine v_iload_n dX9_knownPile_30 rfl ?_
      first
        | exact v_iE dX9_knownPile_31 rfl (by unfold kpR; rw [if_pos (by omega)]) (by unfold kpR; rw [if_pos (by omega)])
        | exact v_iE dX9_knownPile_31 rfl (by unfold kpR; rw [if_neg (by omega)]) (by unfold kpR; rw [if_neg (by omega)])

set_option maxRecDepth 100000 in
set_option maxHeartbeats 4000000 in
theorem k_rrL {l : Launch} {g : GV} {S : SS} {X : XX} {K : II} (hfl : l.stackTraces = false) (hM : isMod S) : ∀ (f s : Nat) (J : II), s < 256 → TX J → rrL f s J = some K → V l g mX9_readRanking 2 (Zm g (QE none S K X)) 0 0 9 [some (.ref 508), some (.int (ii (s : Nat))), some (.int (ii 1)), none] [] S J X := by
  obtain ⟨m0, ⟨p509, q509⟩, ⟨p510, q510⟩, ⟨p511, q511⟩, ⟨p512, q512⟩, ⟨p513, q513⟩, ⟨p514, q514⟩, ⟨p515, q515⟩, ⟨p516, q516⟩, ⟨p517, q517⟩, ⟨p518, q518⟩, ⟨p519, q519⟩, ⟨p520, q520⟩, ⟨p521, q521⟩, ⟨p522, q522⟩, ⟨p523, q523⟩, ⟨p524, q524⟩, ⟨p525, q525⟩, ⟨p526, q526⟩, ⟨p527, q527⟩, ⟨p528, q528⟩, ⟨p529, q529⟩, ⟨p530, q530⟩, ⟨p531, q531⟩, ⟨p532, q532⟩, ⟨p533, q533⟩, ⟨p534, q534⟩, ⟨p535, q535⟩, ⟨p536, q536⟩, ⟨p537, q537⟩, ⟨p538, q538⟩, ⟨p539, q539⟩, ⟨p540, q540⟩⟩ := id hM
  intro f
  induction f with
  | zero => intro s J hs hT hK; cases hK
  | succ f ih =>
    intro s J hs hT hK
    obtain ⟨t1, t2, t3, t4, t5, t6, t7⟩ := id hT
    have hMI := t1
    obtain ⟨w0, w1, w2, w3, w4, w5, w6, w7, w8, w9, w10⟩ := id hMI.1
    have M92 : ∀ (s2 : Nat) (J2 : II) (x2 x3 : Option Value), s2 < 256 → TX J2 → (if hrM J2 = 59 then some J2 else rrL f s2 J2) = some K → V l g mX9_readRanking 2 (Zm g (QE none S K X)) 0 0 92 [some (.ref 508), some (.int (ii (s2 : Nat))), x2, x3] [] S J2 X := by
      intro s2 J2 x2 x3 hs2 hT2 hK2
      refine v_aload_n dX9_readRanking_92 rfl ?_
      refine v_cV0 dX9_readRanking_93 lk_X9_151 (by assumption) (by decide) rfl (k_here hfl hM hT2) (by decide) (Nat.le_of_ble_eq_true rfl) ?_ rfl
      have hh := hr_rng hT2
      refine v_bipush dX9_readRanking_96 (by decide) ?_
      refine v_ic_eq (tgt := 105) dX9_readRanking_98 (by decide) (fun h98 => ?_) (fun h98 => ?_)
      · refine v_iconst dX9_readRanking_105 ?_
        refine v_istn2 dX9_readRanking_106 rfl ?_
        refine v_goto (tgt := 9) dX9_readRanking_107 (by decide) ?_
        rw [if_pos (by omega)] at hK2
        obtain rfl : J2 = K := by simpa using hK2
        refine v_iload_n dX9_readRanking_9 rfl ?_
        refine v_if_eq (tgt := 110) dX9_readRanking_10 (by decide) (fun h8 => ?_) (fun h8 => ?_)
        · exact v_vE dX9_readRanking_110 rfl rfl
        · exfalso; omega
      · refine v_iconst dX9_readRanking_101 ?_
        refine v_goto (tgt := 106) dX9_readRanking_102 (by decide) ?_
        refine v_istn2 dX9_readRanking_106 rfl ?_
        refine v_goto (tgt := 9) dX9_readRanking_107 (by decide) ?_
        rw [if_neg (by omega)] at hK2
        exact v_fgt2 (ih s2 J2 hs2 hT2 hK2) (fgt_c (Or.inr rfl) (fgt_c (Or.inr rfl) (fgt_c (Or.inr rfl) (fgt_c (Or.inl rfl) (fgt_n)))))
    refine v_iload_n dX9_readRanking_9 rfl ?_
    refine v_if_eq (tgt := 110) dX9_readRanking_10 (by decide) (fun h10 => absurd h10 (by decide)) (fun h10 => ?_)
    refine v_aload_n dX9_readRanking_13 rfl ?_
    refine v_geti dX9_readRanking_14 fr_X9_148 (by assumption) (by decide) rfl ?_
    refine v_if_ne (tgt := 110) dX9_readRanking_17 (by decide) (fun h17 => ?_) (fun h17 => ?_)
    · unfold rrL at hK
      rw [if_pos (by omega)] at hK
      obtain rfl : J = K := by simpa using hK
      exact v_vE dX9_readRanking_110 rfl rfl
    · refine v_aload_n dX9_readRanking_20 rfl ?_
      refine v_cV0 dX9_readRanking_21 lk_X9_151 (by assumption) (by decide) rfl (k_here hfl hM hT) (by decide) (Nat.le_of_ble_eq_true rfl) ?_ rfl
      have hh := hr_rng hT
      unfold rrL at hK
      refine v_bipush dX9_readRanking_24 (by decide) ?_
      refine v_isub dX9_readRanking_26 ?_
      refine v_istn3 dX9_readRanking_27 rfl ?_
      refine v_aload_n dX9_readRanking_28 rfl ?_
      refine v_iload_n dX9_readRanking_29 rfl ?_
      refine v_cV1 dX9_readRanking_30 lk_X9_168 (by assumption) (by decide) rfl (k_isCand hfl hM hMI.1 (by omega)) (by decide) (Nat.le_of_ble_eq_true rfl) ?_ rfl
      have hi := inF_01 (hrM J - 97) 0 (J 509 0 - 1)
      have hi1 := @inF_1 (hrM J - 97) 0 (J 509 0 - 1)
      refine v_if_eq (tgt := 45) dX9_readRanking_33 (by decide) (fun h33 => ?_) (fun h33 => ?_)
      · rw [if_neg (by omega), if_pos (by omega)] at hK
        refine v_aload_n dX9_readRanking_45 rfl ?_
        refine v_aload_n dX9_readRanking_46 rfl ?_
        refine v_geti dX9_readRanking_47 fr_X9_145 (by assumption) (by decide) rfl ?_
        refine v_cV1n dX9_readRanking_50 lk_X9_155 (by assumption) (by decide) rfl (k_wrongAt hfl hM hT) (by decide) (Nat.le_of_ble_eq_true rfl) ?_ rfl
        refine v_goto (tgt := 92) dX9_readRanking_53 (by decide) ?_
        first
          | (rw [hc, Int.toNat_natCast] at hK; exact M92 _ _ _ _ hs (TX_wg hT (by omega)) hK)
          | exact M92 _ _ _ _ hs (TX_wg hT (by omega)) hK
          | exact M92 _ _ _ _ (or_lt s hs c hc8) (by have := TX_rrN hT (by omega) h8; unfold rrN at this; rw [hc] at this; exact this) (by unfold rrN at hK; rw [hc] at hK; exact hK)
      · have hi2 := hi1.mp (by omega)
        obtain ⟨c, hc⟩ := Int.eq_ofNat_of_zero_le hi2.1
        have h01 := btI_01 s c
        rw [hc] at hK
        rw [Int.toNat_natCast] at hK
        have hc8 : c < 8 := by omega
        have hi3 : ¬ inF (c : Int) 0 (J 509 0 - 1) = 0 := by rw [← hc]; omega
        refine v_iload_n dX9_readRanking_36 rfl ?_
        rw [hc]
        refine v_iload_n dX9_readRanking_37 rfl ?_
        refine v_ishr (z := ((s / 2 ^ c : Nat) : Int)) dX9_readRanking_38 (shr_b s hs c hc8) ?_
        refine v_iconst dX9_readRanking_39 ?_
        refine v_iand (z := btI s c) dX9_readRanking_40 (and_b _ (by have := Nat.div_le_self s (2 ^ c); omega)) ?_
        refine v_iconst dX9_readRanking_41 ?_
        refine v_ic_ne (tgt := 56) dX9_readRanking_42 (by decide) (fun h42 => ?_) (fun h42 => ?_)
        · rw [if_neg (by omega), if_neg (by omega)] at hK
          have h8 : J 508 13 < 8 := by
            by_cases h8 : J 508 13 < 8
            · exact h8
            · rw [if_neg h8] at hK
              cases hK
          rw [if_pos h8] at hK
          refine v_iload_n dX9_readRanking_56 rfl ?_
          refine v_iconst dX9_readRanking_57 ?_
          refine v_iload_n dX9_readRanking_58 rfl ?_
          refine v_ishl (z := ((2 ^ c : Nat) : Int)) dX9_readRanking_59 (shl_b c hc8) ?_
          refine v_ior (z := ((s ||| 2 ^ c : Nat) : Int)) dX9_readRanking_60 (or_b _ hs c hc8) ?_
          refine v_istn1 dX9_readRanking_61 rfl ?_
          refine v_aload_n dX9_readRanking_62 rfl ?_
          refine v_getr dX9_readRanking_63 fr_X9_29 (by assumption) (by decide) rfl (by assumption) ?_
          refine v_aload_n dX9_readRanking_66 rfl ?_
          refine v_geti dX9_readRanking_67 fr_X9_165 (by assumption) (by decide) rfl ?_
          refine v_iload_n dX9_readRanking_70 rfl ?_
          refine v_iast (j := (J 508 13).toNat) dX9_readRanking_71 (by assumption) (by omega) (by omega) ?_
          refine v_aload_n dX9_readRanking_72 rfl ?_
          refine v_dup dX9_readRanking_73 rfl ?_
          refine v_geti dX9_readRanking_74 fr_X9_165 (by assumption) (by decide) rfl ?_
          rw [up_ne (by omega)]
          refine v_iconst dX9_readRanking_77 ?_
          refine v_iadd dX9_readRanking_78 ?_
          refine v_puti dX9_readRanking_79 fr_X9_165 (by assumption) (by decide) rfl ?_
          refine v_aload_n dX9_readRanking_82 rfl ?_
          refine v_dup dX9_readRanking_83 rfl ?_
          refine v_geti dX9_readRanking_84 fr_X9_145 (by assumption) (by decide) rfl ?_
          rw [up_nk (by omega), up_ne (by omega)]
          refine v_iconst dX9_readRanking_87 ?_
          refine v_iadd dX9_readRanking_88 ?_
          refine v_puti dX9_readRanking_89 fr_X9_145 (by assumption) (by decide) rfl ?_
          first
            | (rw [hc, Int.toNat_natCast] at hK; exact M92 _ _ _ _ hs (TX_wg hT (by omega)) hK)
            | exact M92 _ _ _ _ hs (TX_wg hT (by omega)) hK
            | exact M92 _ _ _ _ (or_lt s hs c hc8) (by have := TX_rrN hT (by omega) h8; unfold rrN at this; rw [hc] at this; exact this) (by unfold rrN at hK; rw [hc] at hK; exact hK)
        · rw [if_neg (by omega), if_pos (by omega)] at hK
          refine v_aload_n dX9_readRanking_45 rfl ?_
          refine v_aload_n dX9_readRanking_46 rfl ?_
          refine v_geti dX9_readRanking_47 fr_X9_145 (by assumption) (by decide) rfl ?_
          refine v_cV1n dX9_readRanking_50 lk_X9_155 (by assumption) (by decide) rfl (k_wrongAt hfl hM hT) (by decide) (Nat.le_of_ble_eq_true rfl) ?_ rfl
          refine v_goto (tgt := 92) dX9_readRanking_53 (by decide) ?_
          first
            | (rw [hc, Int.toNat_natCast] at hK; exact M92 _ _ _ _ hs (TX_wg hT (by omega)) hK)
            | exact M92 _ _ _ _ hs (TX_wg hT (by omega)) hK
            | exact M92 _ _ _ _ (or_lt s hs c hc8) (by have := TX_rrN hT (by omega) h8; unfold rrN at this; rw [hc] at this; exact this) (by unfold rrN at hK; rw [hc] at hK; exact hK)

set_option maxRecDepth 100000 in
set_option maxHeartbeats 4000000 in
theorem k_readRanking {l : Launch} {g : GV} {S : SS} {I : II} {X : XX} {K : II} (hfl : l.stackTraces = false) (hM : isMod S) (hT : TX I) (hK : rrO I = some K) : CE l g mX9_readRanking 2 [.ref 508] S I X none K := by
  obtain ⟨m0, ⟨p509, q509⟩, ⟨p510, q510⟩, ⟨p511, q511⟩, ⟨p512, q512⟩, ⟨p513, q513⟩, ⟨p514, q514⟩, ⟨p515, q515⟩, ⟨p516, q516⟩, ⟨p517, q517⟩, ⟨p518, q518⟩, ⟨p519, q519⟩, ⟨p520, q520⟩, ⟨p521, q521⟩, ⟨p522, q522⟩, ⟨p523, q523⟩, ⟨p524, q524⟩, ⟨p525, q525⟩, ⟨p526, q526⟩, ⟨p527, q527⟩, ⟨p528, q528⟩, ⟨p529, q529⟩, ⟨p530, q530⟩, ⟨p531, q531⟩, ⟨p532, q532⟩, ⟨p533, q533⟩, ⟨p534, q534⟩, ⟨p535, q535⟩, ⟨p536, q536⟩, ⟨p537, q537⟩, ⟨p538, q538⟩, ⟨p539, q539⟩, ⟨p540, q540⟩⟩ := id hM
  refine v_startE hfl rfl (by decide) (Nat.le_of_ble_eq_true rfl) (ls := [some (.ref 508), none, none, none]) rfl ?_
  refine v_aload_n dX9_readRanking_0 rfl ?_
  refine v_iconst dX9_readRanking_1 ?_
  refine v_puti dX9_readRanking_2 fr_X9_165 (by assumption) (by decide) rfl ?_
  refine v_iconst dX9_readRanking_5 ?_
  refine v_istn1 dX9_readRanking_6 rfl ?_
  refine v_iconst dX9_readRanking_7 ?_
  refine v_istn2 dX9_readRanking_8 rfl ?_
  exact k_rrL hfl hM 12 0 _ (by decide) (TX_r0 hT) hK

set_option maxRecDepth 100000 in
set_option maxHeartbeats 4000000 in
theorem k_setRanking {l : Launch} {g : GV} {S : SS} {I : II} {X : XX} {p : Nat} (hfl : l.stackTraces = false) (hM : isMod S) (hT : TX I) (hp : p < 25) : CE l g mX9_setRanking 1 [.ref 508, .int (ii (p : Int))] S I X none (srM I p) := by
  obtain ⟨m0, ⟨p509, q509⟩, ⟨p510, q510⟩, ⟨p511, q511⟩, ⟨p512, q512⟩, ⟨p513, q513⟩, ⟨p514, q514⟩, ⟨p515, q515⟩, ⟨p516, q516⟩, ⟨p517, q517⟩, ⟨p518, q518⟩, ⟨p519, q519⟩, ⟨p520, q520⟩, ⟨p521, q521⟩, ⟨p522, q522⟩, ⟨p523, q523⟩, ⟨p524, q524⟩, ⟨p525, q525⟩, ⟨p526, q526⟩, ⟨p527, q527⟩, ⟨p528, q528⟩, ⟨p529, q529⟩, ⟨p530, q530⟩, ⟨p531, q531⟩, ⟨p532, q532⟩, ⟨p533, q533⟩, ⟨p534, q534⟩, ⟨p535, q535⟩, ⟨p536, q536⟩, ⟨p537, q537⟩, ⟨p538, q538⟩, ⟨p539, q539⟩, ⟨p540, q540⟩⟩ := id hM
  obtain ⟨t1, t2, t3, t4, t5, t6, t7⟩ := id hT
  have hMI := t1
  obtain ⟨w0, w1, w2, w3, w4, w5, w6, w7, w8, w9, w10⟩ := id hMI.1
  refine v_startE hfl rfl (by decide) (Nat.le_of_ble_eq_true rfl) (ls := [some (.ref 508), some (.int (ii (p : Int)))]) rfl ?_
  refine v_aload_n dX9_setRanking_0 rfl ?_
  refine v_getr dX9_setRanking_1 fr_X9_9 (by assumption) (by decide) rfl (by assumption) ?_
  refine v_iload_n dX9_setRanking_4 rfl ?_
  refine v_iconst dX9_setRanking_5 ?_
  refine v_cS2 dX9_setRanking_6 lk_X9_122 (k_pileAt hfl) (by decide) (Nat.le_of_ble_eq_true rfl) ?_ rfl
  refine v_aload_n dX9_setRanking_9 rfl ?_
  refine v_geti dX9_setRanking_10 fr_X9_165 (by assumption) (by decide) rfl ?_
  refine v_iast (j := 16 + 10 * p) dX9_setRanking_13 (by assumption) (by omega) (by omega) ?_
  refine v_aload_n dX9_setRanking_14 rfl ?_
  refine v_getr dX9_setRanking_15 fr_X9_29 (by assumption) (by decide) rfl (by assumption) ?_
  refine v_iconst dX9_setRanking_18 ?_
  refine v_aload_n dX9_setRanking_19 rfl ?_
  refine v_getr dX9_setRanking_20 fr_X9_9 (by assumption) (by decide) rfl (by assumption) ?_
  refine v_iload_n dX9_setRanking_23 rfl ?_
  refine v_iconst dX9_setRanking_24 ?_
  refine v_cS2 dX9_setRanking_25 lk_X9_122 (k_pileAt hfl) (by decide) (Nat.le_of_ble_eq_true rfl) ?_ rfl
  refine v_aload_n dX9_setRanking_28 rfl ?_
  refine v_geti dX9_setRanking_29 fr_X9_165 (by assumption) (by decide) rfl ?_
  rw [up_ne (by omega)]
  refine v_copy (sp := 0) (dq := 17 + 10 * p) (n := (I 508 13).toNat) dX9_setRanking_32 cy_X9_136 (by assumption) (by assumption) (by first | rfl | omega) (by first | rfl | omega) (by first | rfl | omega) (by omega) (by omega) (by decide) (Nat.le_of_ble_eq_true rfl) ?_
  exact v_vE dX9_setRanking_35 rfl (rfl)
