/-! what is remembered: the class's history and the model's -/
theorem pu_8 {J : II} {a : Nat} (ha : a ≠ 511) : (∀ k, k ≠ 3 → k ≠ 14 → puM J a 508 k = J 508 k) ∧ puM J a 508 14 = 0 ∧ puM J a 508 3 = (if J 508 3 = 8 then 8 else J 508 3 + 1) := by
  have hA : ∀ k, k ≠ 3 → puA J 508 k = J 508 k := fun k hk => by
    unfold puA
    split
    · rw [up_nk hk, cpy_ne (by omega)]
    · rfl
  have hA3 : puA J 508 3 = (if J 508 3 = 8 then 7 else J 508 3) := by
    unfold puA
    split
    · rw [up_eq]; omega
    · rfl
  unfold puM
  refine ⟨fun k h3 h14 => ?_, up_eq, ?_⟩
  · rw [up_nk h14, up_nk h3, cpy_ne (by omega)]
    exact hA k h3
  · rw [up_nk (by omega), up_eq, hA3]
    split <;> omega
theorem pu_r {J : II} {a : Nat} (ha : a ≠ 511) (ha8 : a ≠ 508) {n : Nat} (hn : J 508 3 = (n : Int)) (hn8 : n ≤ 8) : ∀ k j : Nat, j < 265 → k < 8 → (k ≤ n) → puM J a 511 (265 * k + j) = if n < 8 then (if k = n then J a j else J 511 (265 * k + j)) else (if k = 7 then J a j else J 511 (265 * (k + 1) + j)) := by
  intro k j hj hk hkn
  unfold puM
  rw [up_ne (by omega), up_ne (by omega)]
  by_cases h8 : n < 8
  · have hA : puA J = J := by unfold puA; rw [if_neg (by omega)]
    rw [if_pos h8, hA, hn, Int.toNat_natCast]
    by_cases hkn2 : k = n
    · subst hkn2
      rw [if_pos rfl, cpy_v (by omega)]
      rw [show 0 + (265 * k + j - 265 * k) = j by omega]
    · rw [if_neg hkn2, cpy_o (by omega)]
  · have hn9 : n = 8 := by omega
    subst hn9
    have hA : puA J = up (cpy J 511 511 265 0 1855) 508 3 (J 508 3 - 1) := by unfold puA; rw [if_pos (by omega)]
    have hA3 : puA J 508 3 = 7 := by rw [hA, up_eq, hn]; rfl
    rw [if_neg h8, hA3]
    by_cases hk7 : k = 7
    · subst hk7
      rw [if_pos rfl, cpy_v (by omega), hA, up_ne ha8, cpy_ne ha]
      rw [show 0 + (265 * 7 + j - 265 * (7 : Int).toNat) = j by omega]
    · rw [if_neg hk7, cpy_o (by omega), hA, up_ne (by omega), cpy_v (by omega)]
      rw [show 265 + (265 * k + j - 0) = 265 * (k + 1) + j by omega]
theorem rg_pu9 {J : II} {a : Nat} (h : RG J) (hp : 0 ≤ J 508 3 ∧ J 508 3 ≤ 8) : RG (puM J a) := by
  have h1 : RG (puA J) ∧ 0 ≤ puA J 508 3 ∧ puA J 508 3 ≤ 8 := by
    unfold puA
    split
    · exact ⟨rg_up (rg_cpy h) (by omega), by rw [up_eq]; omega⟩
    · exact ⟨h, hp⟩
  unfold puM
  exact rg_up (rg_up (rg_cpy h1.1) (by omega)) (by omega)
theorem SlD_re {sl : Nat → Nat} {n : Nat} (h : SlD sl) : SlD (reSl sl n) := by
  unfold reSl
  split
  · exact h
  · refine ⟨fun k hk => ?_, fun i j hi hj hij => ?_⟩
    · unfold rotL
      split
      · exact h.1 (k + 1) (by omega)
      · exact h.1 0 (by omega)
    · unfold rotL
      split <;> split
      · exact h.2 (i + 1) (j + 1) (by omega) (by omega) (by omega)
      · exact h.2 (i + 1) 0 (by omega) (by omega) (by omega)
      · exact h.2 0 (j + 1) (by omega) (by omega) (by omega)
      · omega
theorem rf_v {I : II} {n : Nat} {sl : Nat → Nat} (hS : SlO sl) : rfM I n sl 201 1 = reB I 201 n 201 1 + 1 ∧ rfM I n sl 0 10 = 0 ∧ (∀ k, k ≠ 10 → rfM I n sl 0 k = I 0 k) ∧ ∀ x, 203 ≤ x → x < 451 → rfM I n sl x = cpyE (reB I 201 n) 1 (reL sl n) x := by
  have h1 : 203 ≤ reL sl n ∧ reL sl n + 31 ≤ 451 := by
    unfold reL
    split
    · exact hS n (by assumption)
    · exact hS 0 (by omega)
  unfold rfM reM
  refine ⟨?_, up_eq, fun k hk => ?_, fun x hx1 hx2 => ?_⟩
  · rw [up_ne (by omega), up_eq]
  · rw [up_nk hk, up_ne (by omega), cpyE_e (by omega)]
    unfold reB
    split
    · rfl
    · rw [up_ne (by omega)]
  · rw [up_ne (by omega), up_ne (by omega)]
theorem reB_x {I : II} {n x : Nat} (hx : x ≠ 201) : reB I 201 n x = I x := by
  unfold reB
  split
  · rfl
  · exact up_ne hx
/-- after the present election was remembered -/
theorem HS_push {I L F : II} {sl : Nat → Nat} {n m : Nat} (h : HSt I sl) (hLI : ∀ x, (1 ≤ x ∧ x < 32) ∨ (201 ≤ x ∧ x < 451) → L x = I x) (hWs : ∀ k : Nat, (k : Int) < I 201 1 → WfT I (sl k)) (hSD : SlD sl) (hn : I 201 1 = (n : Int)) (hn8 : n ≤ 8) (hE : EL I 1 I m m) (hm : m ≤ 24) (hW : WfM I) (hW1 : WfT I 1) (hsl : ∀ x, 203 ≤ x → x < 451 → F x = rfM L n sl x) (hF1 : F 201 1 = rfM L n sl 201 1)
    (h511 : ∀ k j : Nat, j < 265 → k < 8 → k ≤ n → F 511 (265 * k + j) = if n < 8 then (if k = n then I 509 j else I 511 (265 * k + j)) else (if k = 7 then I 509 j else I 511 (265 * (k + 1) + j))) (h0 : F 1 0 = I 1 0) : HSt F (reSl sl n) ∧ (∀ k : Nat, (k : Int) < F 201 1 → WfT F (reSl sl n k)) ∧ F 201 1 = (if n = 8 then 8 else (n : Int) + 1) := by
  obtain ⟨v1, v2, v3, v4⟩ := rf_v (I := L) (n := n) hSD.1
  have hcnt : F 201 1 = (if n = 8 then 8 else (n : Int) + 1) := by
    rw [hF1, v1]
    unfold reB
    by_cases h8 : n < 8
    · rw [if_pos h8, if_neg (by omega), hLI 201 (by omega), hn]
    · rw [if_neg h8, if_pos (by omega), up_eq]; rfl
  have hd : 203 ≤ reL sl n ∧ reL sl n + 31 ≤ 451 := by
    unfold reL
    split
    · exact hSD.1 n (by assumption)
    · exact hSD.1 0 (by omega)
  have hFr : ∀ x, 203 ≤ x → x < 451 → F x = cpyE (reB L 201 n) 1 (reL sl n) x := fun x a b => (hsl x a b).trans (v4 x a b)
  have hout : ∀ x, 203 ≤ x → x < 451 → (x < reL sl n ∨ reL sl n + 31 ≤ x) → F x = I x := fun x a b c => by rw [hFr x a b, cpyE_e c, reB_x (by omega), hLI x (by omega)]
  have hEn : EL (cpyE (reB L 201 n) 1 (reL sl n)) (reL sl n) I m m := EL_cpy (EL_of hE (fun x _ _ => (reB_x (by omega)).trans (hLI x (by omega))) rfl) (by omega) hW
  have hWn : WfT (cpyE (reB L 201 n) 1 (reL sl n)) (reL sl n) := WfT_cpy (by omega) (WfT_of hW1 fun x _ _ => (reB_x (by omega)).trans (hLI x (by omega)))
  have hnew0 : cpyE (reB L 201 n) 1 (reL sl n) (reL sl n) 0 = I 1 0 := by rw [cpyE_0 (by omega), reB_x (by omega), hLI 1 (by omega)]
  have hdis : ∀ i, i < 8 → sl i ≠ reL sl n → sl i + 31 ≤ reL sl n ∨ reL sl n + 31 ≤ sl i := by
    intro i hi hne
    unfold reL at hne ⊢
    split at hne <;> rename_i h8
    · rw [if_pos h8]
      exact hSD.2 i n hi h8 (fun e => hne (by rw [e]))
    · rw [if_neg h8]
      exact hSD.2 i 0 hi (by omega) (fun e => hne (by rw [e]))
  have hnew : ∀ k, k < 8 → k ≤ n → (n < 8 → k = n) → (¬ n < 8 → k = 7) → ELs F (reL sl n) 511 (265 * k) := by
    intro k hk hkn h1 h2
    have e9 : ∀ j, j < 265 → sg F 511 (265 * k) 509 j = I 509 j := fun j hj => by
      rw [sg_9]
      show F 511 (265 * k + j) = _
      rw [h511 k j hj hk hkn]
      by_cases h8 : n < 8
      · rw [if_pos h8, if_pos (h1 h8)]
      · rw [if_neg h8, if_pos (h2 h8)]
    exact ⟨m, hm, EL_265 hEn hW (fun x a b => hFr x (by omega) (by omega)) e9, WfM_265 hW e9⟩
  have hold : ∀ k i : Nat, k < 8 → k ≤ n → i < 8 → (i : Int) < I 201 1 → sl i ≠ reL sl n → (∀ j, j < 265 → F 511 (265 * k + j) = I 511 (265 * i + j)) → (ELs F (sl i) 511 (265 * k) ∧ F (sl i) 0 = F 1 0) ∧ WfT F (sl i) := by
    intro k i hk hkn hi hic hne hj
    have ho := hSD.1 i hi
    have hdi := hdis i hi hne
    have hrow : ∀ x, sl i ≤ x → x < sl i + 31 → F x = I x := fun x a b => hout x (by omega) (by omega) (by omega)
    obtain ⟨⟨mm, hmm, hEi, hWi⟩, hi0⟩ := h i hic
    have e9 : ∀ j, j < 265 → sg F 511 (265 * k) 509 j = sg I 511 (265 * i) 509 j := fun j hj9 => by
      rw [sg_9, sg_9]
      exact hj j hj9
    exact ⟨⟨⟨mm, hmm, EL_265 hEi hWi hrow e9, WfM_265 hWi e9⟩, by rw [hrow _ (by omega) (by omega), h0]; exact hi0⟩, WfT_of (hWs i hic) hrow⟩
  have hall : ∀ k : Nat, (k : Int) < F 201 1 → (ELs F (reSl sl n k) 511 (265 * k) ∧ F (reSl sl n k) 0 = F 1 0) ∧ WfT F (reSl sl n k) := by
    intro k hk
    rw [hcnt] at hk
    by_cases h8 : n < 8
    · rw [if_neg (by omega)] at hk
      have er : reSl sl n k = sl k := by unfold reSl; rw [if_pos h8]
      have el : reL sl n = sl n := if_pos h8
      rw [er]
      by_cases hkn : k = n
      · subst hkn
        rw [← el]
        refine ⟨⟨hnew k h8 (Nat.le_refl _) (fun _ => rfl) (fun e => absurd h8 e), ?_⟩, WfT_of hWn fun x a b => hFr x (by omega) (by omega)⟩
        rw [hFr _ (by omega) (by omega), hnew0, h0]
      · refine hold k k (by omega) (by omega) (by omega) (by omega) ?_ (fun j hj => by rw [h511 k j hj (by omega) (by omega), if_pos h8, if_neg hkn])
        rw [el]
        intro e
        have := hSD.2 k n (by omega) h8 hkn
        omega
    · have hn9 : n = 8 := by omega
      subst hn9
      rw [if_pos rfl] at hk
      have el : reL sl 8 = sl 0 := rfl
      by_cases hk7 : k = 7
      · subst hk7
        have er : reSl sl 8 7 = sl 0 := rfl
        rw [er, ← el]
        refine ⟨⟨hnew 7 (by omega) (by omega) (fun e => by omega) (fun _ => rfl), ?_⟩, WfT_of hWn fun x a b => hFr x (by omega) (by omega)⟩
        rw [hFr _ (by omega) (by omega), hnew0, h0]
      · have er : reSl sl 8 k = sl (k + 1) := by
          show rotL sl k = _
          unfold rotL
          rw [if_pos (by omega)]
        rw [er]
        refine hold k (k + 1) (by omega) (by omega) (by omega) (by omega) ?_ (fun j hj => by rw [h511 k j hj (by omega) (by omega), if_neg (by omega), if_neg hk7])
        rw [el]
        intro e
        have := hSD.2 (k + 1) 0 (by omega) (by omega) (by omega)
        omega
  exact ⟨fun k hk => (hall k hk).1, fun k hk => (hall k hk).2, hcnt⟩
/-- another election, the old one remembered -/
theorem IV_push {I L F : II} {sl : Nat → Nat} {n : Nat} (h : IV I sl) (hLI : ∀ x, (1 ≤ x ∧ x < 32) ∨ (201 ≤ x ∧ x < 451) → L x = I x) (hn : I 201 1 = (n : Int)) (hR : RG F) (hW : WfT F 1) (hM : WfM F) (hE : ELp F) (h0 : F 1 0 = I 1 0) (hF0 : ∀ k, k ≠ 10 → F 0 k = I 0 k) (h10 : F 0 10 = 0) (hx : ∀ x, (63 ≤ x ∧ x < 198) ∨ (451 ≤ x ∧ x < 508) → F x = I x) (hsl : ∀ x, 203 ≤ x → x < 451 → F x = rfM L n sl x) (hF1 : F 201 1 = rfM L n sl 201 1)
    (h5 : F 508 5 = I 508 5) (h43 : F 508 43 = I 508 43) (h44 : F 508 44 = I 508 44) (h45 : F 508 45 = I 508 45) (h14 : F 508 14 = 0) (h3 : F 508 3 = (if I 508 3 = 8 then 8 else I 508 3 + 1)) (h511 : ∀ k j : Nat, j < 265 → k < 8 → k ≤ n → F 511 (265 * k + j) = if n < 8 then (if k = n then I 509 j else I 511 (265 * k + j)) else (if k = 7 then I 509 j else I 511 (265 * (k + 1) + j)))
    (h512 : F 512 = I 512) (h537 : F 537 = I 537) (h538 : F 538 = I 538) (h539 : F 539 = I 539) (h540 : F 540 = I 540) (hT : TXp F) : IV F (reSl sl n) := by
  obtain ⟨i1, i2, i3, i4, i5, i6, i7, i8, i9, i10, i11, i12⟩ := id h
  obtain ⟨k1, k2, k3, k4, k5, k6, k7, k8, k9, k10, k11, k12, k13, k14⟩ := id i1
  obtain ⟨m, hm, hE1⟩ := id i6
  obtain ⟨p1, p2, p3⟩ := HS_push i7 hLI k9 i2 hn (by omega) hE1 hm i3.1.1 ⟨k1.1, k2⟩ hsl hF1 h511 h0
  refine IV_chg h (SlD_re i2) hR hW hM hE h10 h14 (by rw [p3]; split <;> omega) ?_ p2 p1 (fun x a b => hx x (by omega)) (hF0 12 (by omega)) (hF0 13 (by omega)) (by rw [hF0 11 (by omega)]; exact k11) (by rw [hF0 11 (by omega), h43]; exact i5.2.2.1) (RI_of k5 (hx _ (by omega))) (DRd_of i9 i1 (hF0 11 (by omega)) h0 (fun x a b => hx x (by omega)) h44 h45 h537 h538 h539) (fun x a b => hx x (by omega)) h5 h512 h540 hT
  rw [p3, h3, ← i5.2.1, hn]
  by_cases h8 : n = 8
  · subst h8; rfl
  · rw [if_neg h8, if_neg (by omega)]
