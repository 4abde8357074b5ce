/-! append, save -/
theorem sg_rng {p : Int} {i : Nat} : 0 ≤ sgF p i ∧ sgF p i ≤ 255 := and255 _
theorem bd_no {p : Int} {i : Nat} (hi : i < 4) (h : ¬ bdF p 4 = 1) : sgF p i = 0 ∨ (33 ≤ sgF p i ∧ sgF p i ≤ 126) := by
  by_cases hb : bdS (sgF p i)
  · exact absurd (bd_at hi hb) h
  · have hb2 : ¬ (¬ sgF p i = 0 ∧ (sgF p i < 33 ∨ 126 < sgF p i)) := hb
    omega
theorem pu_o {p : Int} {I : II} : ∀ i, (∀ x, x ≠ 198 → x ≠ 199 → puJ p I i x = I x) ∧ ∀ k, k ≠ 4 → puJ p I i 198 k = I 198 k
  | 0 => ⟨fun _ _ _ => rfl, fun _ _ => rfl⟩
  | i + 1 => by
    have ih := pu_o (p := p) (I := I) i
    unfold puJ
    split
    · exact ih
    · refine ⟨fun x h1 h2 => by rw [up_ne h1, up_ne h2]; exact ih.1 x h1 h2, fun k hk => by rw [up_nk hk, up_ne (by omega)]; exact ih.2 k hk⟩
theorem ap_o {p : Int} {J : II} : ∀ i, (∀ x, x ≠ 508 → x ≠ 513 → apU p J i x = J x) ∧ ∀ k, k ≠ 8 → apU p J i 508 k = J 508 k
  | 0 => ⟨fun _ _ _ => rfl, fun _ _ => rfl⟩
  | i + 1 => by
    have ih := ap_o (p := p) (J := J) i
    unfold apU
    split
    · exact ih
    · refine ⟨fun x h1 h2 => by rw [up_ne h1, up_ne h2]; exact ih.1 x h1 h2, fun k hk => by rw [up_nk hk, up_ne (by omega)]; exact ih.2 k hk⟩
/-- the text is the same text -/
theorem pu_ap {p : Int} {I J : II} (hl : I 198 4 = J 508 8) (h0 : ∀ k, k < 60 → I 199 k = J 513 k) : ∀ i, ∀ k, k < 60 → puJ p I i 199 k = apU p J i 513 k
  | 0, k, hk => h0 k hk
  | i + 1, k, hk => by
    have ih := pu_ap hl h0 (p := p) i k hk
    have e1 := pu_len p I i
    have e2 := ap_len p J i
    unfold puJ apU
    by_cases hz : sgF p i = 0
    · rw [if_pos hz, if_pos hz]; exact ih
    · rw [if_neg hz, if_neg hz, up_ne (show (199 : Nat) ≠ 198 by omega), up_ne (show (513 : Nat) ≠ 508 by omega), e1, e2, hl]
      by_cases hk2 : k = (J 508 8 + cnF p i).toNat
      · subst hk2
        rw [up_eq, up_eq]
      · rw [up_nk hk2, up_nk hk2]; exact ih
theorem pu_rng {p : Int} {I : II} (hb : ¬ bdF p 4 = 1) (h : ∀ k, k < 60 → 0 ≤ I 199 k ∧ I 199 k ≤ 126) : ∀ i, i ≤ 4 → ∀ k, k < 60 → 0 ≤ puJ p I i 199 k ∧ puJ p I i 199 k ≤ 126
  | 0, _, k, hk => h k hk
  | i + 1, hi, k, hk => by
    have ih := pu_rng hb h i (by omega) k hk
    have hs := bd_no (i := i) (by omega) hb
    unfold puJ
    split
    · exact ih
    · rw [up_ne (show (199 : Nat) ≠ 198 by omega)]
      by_cases hk2 : k = (puJ p I i 198 4).toNat
      · subst hk2; rw [up_eq]; omega
      · rw [up_nk hk2]; exact ih
theorem rg_pu {p : Int} {I : II} (h : RG I) (hl : 0 ≤ I 198 4 ∧ I 198 4 ≤ 60) : ∀ i, i ≤ 4 → RG (puJ p I i)
  | 0, _ => h
  | i + 1, hi => by
    have ih := rg_pu (p := p) h hl i (by omega)
    have e1 := pu_len p I i
    have e2 := cn_rng p i
    have hs := sg_rng (p := p) (i := i)
    unfold puJ
    split
    · exact ih
    · exact rg_up (rg_up ih (by omega)) (by omega)
theorem rg_ap {p : Int} {J : II} (h : RG J) (hl : 0 ≤ J 508 8 ∧ J 508 8 ≤ 60) : ∀ i, i ≤ 4 → RG (apU p J i)
  | 0, _ => h
  | i + 1, hi => by
    have ih := rg_ap (p := p) h hl i (by omega)
    have e1 := ap_len p J i
    have e2 := cn_rng p i
    have hs := sg_rng (p := p) (i := i)
    unfold apU
    split
    · exact ih
    · exact rg_up (rg_up ih (by omega)) (by omega)
theorem s_append {I : II} {sl : Nat → Nat} {p : Int} (h : IV I sl) : MI (apR I p).2 ∧ (0 ≤ (apR I p).2 508 8 ∧ (apR I p).2 508 8 ≤ 60) ∧ IV (apM (apR I p).2 p).2 sl ∧ OK2 IAE ISE (apR I p) (apM (apR I p).2 p).1 (apM (apR I p).2 p).2 := by
  have hT := h.2.2.2.1
  have hl := hT.2.1
  have hb8 := h.2.2.1.2.1
  have hcn := cn_rng p 4
  by_cases c1 : bdF p 4 = 1
  · have e : apR I p = erI IAE I := if_pos c1
    have ht : tAp I p = 1 := if_pos c1
    rw [e]
    show MI I ∧ (0 ≤ I 508 8 ∧ I 508 8 ≤ 60) ∧ IV (apM I p).2 sl ∧ OK2 IAE ISE (erI IAE I) (apM I p).1 (apM I p).2
    unfold apM
    rw [ht, if_neg (by decide)]
    exact ⟨h.mi, hb8, IV_thr h (by omega), by dsimp only; exact OK2_e1 up_eq⟩
  · by_cases c2 : 60 < I 198 4 + cnF p 4
    · have e : apR I p = erI ISE I := by unfold apR; rw [if_neg c1, if_pos c2]
      have ht : tAp I p = 2 := by unfold tAp; rw [if_neg c1, if_pos (by omega)]
      rw [e]
      show MI I ∧ (0 ≤ I 508 8 ∧ I 508 8 ≤ 60) ∧ IV (apM I p).2 sl ∧ OK2 IAE ISE (erI ISE I) (apM I p).1 (apM I p).2
      unfold apM
      rw [ht, if_neg (by decide)]
      exact ⟨h.mi, hb8, IV_thr h (by omega), by dsimp only; exact OK2_e2 up_eq⟩
    · have e : apR I p = okI (puJ p I 4 198 4) (puJ p I 4) := by unfold apR; rw [if_neg c1, if_neg c2]
      rw [e]
      show MI (puJ p I 4) ∧ (0 ≤ puJ p I 4 508 8 ∧ puJ p I 4 508 8 ≤ 60) ∧ IV (apM (puJ p I 4) p).2 sl ∧ OK2 IAE ISE (okI (puJ p I 4 198 4) (puJ p I 4)) (apM (puJ p I 4) p).1 (apM (puJ p I 4) p).2
      obtain ⟨o1, o2⟩ := pu_o (p := p) (I := I) 4
      have e1 := pu_len p I 4
      have hr := pu_rng (p := p) c1 hT.1.2.1 4 (by omega)
      have hRJ : RG (puJ p I 4) := rg_pu h.rg (by omega) 4 (by omega)
      have hap := pu_ap (p := p) hl hT.2.2 4
      have h508 : puJ p I 4 508 = I 508 := o1 508 (by omega) (by omega)
      have h513 : puJ p I 4 513 = I 513 := o1 513 (by omega) (by omega)
      have hapJ : ∀ i, ∀ k, apU p (up (puJ p I 4) 508 6 0) i 513 k = apU p I i 513 k ∧ apU p (up (puJ p I 4) 508 6 0) i 508 8 = apU p I i 508 8 := by
        intro i
        induction i with
        | zero =>
          intro k
          exact ⟨by show up (puJ p I 4) 508 6 0 513 k = I 513 k; rw [up_ne (by omega), h513], by show up (puJ p I 4) 508 6 0 508 8 = I 508 8; rw [up_nk (by omega), h508]⟩
        | succ i ih =>
          intro k
          unfold apU
          split
          · exact ih k
          · rw [(ih 0).2, up_ne (show (513 : Nat) ≠ 508 by omega), up_ne (show (513 : Nat) ≠ 508 by omega), up_eq, up_eq]
            refine ⟨?_, rfl⟩
            by_cases hk : k = (apU p I i 508 8).toNat
            · subst hk; rw [up_eq, up_eq]
            · rw [up_nk hk, up_nk hk]; exact (ih k).1
      have ht : tAp (puJ p I 4) p = 0 := by unfold tAp; rw [if_neg c1, if_neg (by rw [h508]; omega)]
      generalize puJ p I 4 = J at *
      unfold apM
      rw [ht, if_pos (Int.le_refl 0)]
      show MI J ∧ (0 ≤ J 508 8 ∧ J 508 8 ≤ 60) ∧ IV (apU p (up J 508 6 0) 4) sl ∧ OK2 IAE ISE (okI (J 198 4) J) (apU p (up J 508 6 0) 4 508 8) (apU p (up J 508 6 0) 4)
      obtain ⟨q1, q2⟩ := ap_o (p := p) (J := up J 508 6 0) 4
      have e2 := ap_len p (up J 508 6 0) 4
      have hRF : RG (apU p (up J 508 6 0) 4) := rg_ap (rg_up hRJ (by omega)) (by rw [up_nk (by omega), h508]; exact hb8) 4 (by omega)
      rw [up_nk (by omega), h508] at e2
      have F13 : ∀ k, k < 60 → apU p (up J 508 6 0) 4 513 k = J 199 k := fun k hk => by rw [(hapJ 4 k).1, ← hap k hk]
      generalize apU p (up J 508 6 0) 4 = F at *
      have FX : ∀ x, x ≠ 508 → x ≠ 513 → F x = J x := fun x a b => (q1 x a b).trans (up_ne a)
      have FI : ∀ x, x ≠ 508 → x ≠ 513 → x ≠ 198 → x ≠ 199 → F x = I x := fun x a b c d => (FX x a b).trans (o1 x c d)
      have F8 : ∀ k, k ≠ 8 → k ≠ 6 → F 508 k = I 508 k := fun k a b => by rw [q2 k a, up_nk b, h508]
      obtain ⟨t1, t2, t3, t4, t5⟩ := hT.1
      refine ⟨⟨WfM_of h.mi.1 (o1 509 (by omega) (by omega)), hRJ⟩, by rw [h508]; exact hb8, ?_, ?_⟩
      · refine IV_txt h hRF (fun x _ a b c d => FI x (by omega) (by omega) a b) (fun j _ => by rw [FI 509 (by omega) (by omega) (by omega) (by omega)]) (fun k a b c d e f => F8 k b a) ⟨⟨⟨?_, ?_, ?_, ?_⟩, ?_, ?_⟩, ?_, ?_, ?_, ?_, ?_⟩
        · rw [FX 198 (by omega) (by omega), e1]; omega
        · intro k hk; rw [FX 199 (by omega) (by omega)]; exact hr k hk
        · rw [FI 200 (by omega) (by omega) (by omega) (by omega)]; exact t3
        · rw [FX 198 (by omega) (by omega), o2 2 (by omega)]; exact ⟨t4, t5⟩
        · rw [FX 198 (by omega) (by omega), e1, e2, hl]
        · intro k hk; rw [FX 199 (by omega) (by omega), F13 k hk]
        · rw [FX 198 (by omega) (by omega), o2 5 (by omega), F8 11 (by omega) (by omega)]; exact h.2.2.2.2.1.1
        · rw [e2]; omega
        · intro k hk; rw [F13 k hk]; exact hr k hk
        · rw [FI 514 (by omega) (by omega) (by omega) (by omega)]; exact h.2.2.1.2.2.2.1
        · rw [F8 13 (by omega) (by omega)]; exact h.2.2.1.2.2.2.2.1
      · refine OK2_ok ?_ ?_
        · rw [q2 6 (by omega)]; exact up_eq
        · rw [e1, e2, hl]
/-! save -/
theorem svM9_v {J : II} : (∀ x, x ≠ 508 → x ≠ 512 → x ≠ 540 → svM9 J x = J x) ∧ (∀ k, k ≠ 5 → k ≠ 6 → svM9 J 508 k = J 508 k) ∧ svM9 J 508 5 = 1 ∧ svM9 J 508 6 = 0 ∧ (∀ j, j < 265 → svM9 J 512 j = J 509 j) ∧ svM9 J 540 0 = (if J 508 43 = 0 then 0 else 1) ∧ svM9 J 540 1 = J 508 44 ∧ svM9 J 540 2 = J 508 45 ∧ (∀ j, j < 192 → svM9 J 540 (3 + j) = J 537 j) ∧ (∀ j, j < 8 → svM9 J 540 (195 + j) = J 538 j) ∧ ∀ j, j < 8 → svM9 J 540 (203 + j) = J 539 j := by
  have hB : ∀ x, x ≠ 508 → x ≠ 512 → x ≠ 540 → svB J x = J x := fun x a b c => by
    unfold svB
    rw [up_ne c, up_ne c, up_ne c, svA_s a b]
  have hB8 : ∀ k, svB J 508 k = svA J 508 k := fun k => by
    unfold svB
    rw [up_ne (by omega), up_ne (by omega), up_ne (by omega)]
  have hA8 : svA J 508 = up (up J 508 6 0) 508 5 1 508 := cpy_ne (by omega)
  unfold svM9
  refine ⟨fun x a b c => ?_, fun k a b => ?_, ?_, ?_, fun j hj => ?_, ?_, ?_, ?_, fun j hj => ?_, fun j hj => ?_, fun j hj => ?_⟩
  · rw [cpy_ne c, cpy_ne c, cpy_ne c, hB x a b c]
  · rw [cpy_ne (by omega), cpy_ne (by omega), cpy_ne (by omega), hB8, hA8, up_nk a, up_nk b]
  · rw [cpy_ne (by omega), cpy_ne (by omega), cpy_ne (by omega), hB8, hA8, up_eq]
  · rw [cpy_ne (by omega), cpy_ne (by omega), cpy_ne (by omega), hB8, hA8, up_nk (by omega), up_eq]
  · rw [cpy_ne (by omega), cpy_ne (by omega), cpy_ne (by omega)]
    unfold svB
    rw [up_ne (by omega), up_ne (by omega), up_ne (by omega)]
    unfold svA
    rw [cpy_in hj, up_ne (by omega), up_ne (by omega)]
  · rw [cpy_o (by omega), cpy_o (by omega), cpy_o (by omega)]
    unfold svB
    rw [up_nk (by omega), up_nk (by omega), up_eq]
  · rw [cpy_o (by omega), cpy_o (by omega), cpy_o (by omega)]
    unfold svB
    rw [up_nk (by omega), up_eq]
  · rw [cpy_o (by omega), cpy_o (by omega), cpy_o (by omega)]
    unfold svB
    rw [up_eq]
  · rw [cpy_o (by omega), cpy_o (by omega), cpy_v (by omega), hB _ (by omega) (by omega) (by omega)]
    rw [show 0 + (3 + j - 3) = j by omega]
  · rw [cpy_o (by omega), cpy_v (by omega), cpy_ne (by omega), hB _ (by omega) (by omega) (by omega)]
    rw [show 0 + (195 + j - 195) = j by omega]
  · rw [cpy_v (by omega), cpy_ne (by omega), cpy_ne (by omega), hB _ (by omega) (by omega) (by omega)]
    rw [show 0 + (203 + j - 203) = j by omega]
theorem rg_svM9 {J : II} (h : RG J) : RG (svM9 J) := by
  unfold svM9 svB svA
  exact rg_cpy (rg_cpy (rg_cpy (rg_up (rg_up (rg_up (rg_cpy (rg_up (rg_up h (by omega)) (by omega))) (by split <;> omega)) (h 508 44)) (h 508 45))))
theorem cpyE_0 {I : II} {e d : Nat} (h : e + 31 ≤ d ∨ d + 31 ≤ e) : cpyE I e d d 0 = I e 0 := (cpyE_eq h).1
theorem WfT_cpy {I : II} {e d : Nat} (h : e + 31 ≤ d ∨ d + 31 ≤ e) (hW : WfT I e) : WfT (cpyE I e d) d := ⟨WfE_eq (cpyE_eq h) hW.1, by rw [cpE_4]; exact hW.2⟩
theorem s_save {I : II} {sl : Nat → Nat} (h : IV I sl) : MI (svM I) ∧ IV (svM9 (svM I)) sl ∧ svM I 464 4 = svM I 509 1 := by
  obtain ⟨i1, i2, i3, i4, i5, i6, i7, i8, i9, i10, i11, i12⟩ := id h
  obtain ⟨k1, k2, k3, k4, k5, k6, k7, k8, k9, k10, k11, k12, k13, k14⟩ := id i1
  obtain ⟨m, hm, hE⟩ := id i6
  have hv := cpyR_v (I := cpyE I 1 464) (s := 451) (d := 495) (by omega)
  have hJ : ∀ x, x ≠ 0 → x < 464 ∨ 508 ≤ x → svM I x = I x := fun x a b => by
    unfold svM
    rw [up_ne a, up_ne a, cpyR_e (by omega), cpyE_e (by omega)]
  have hJE : ∀ x, 464 ≤ x → x < 495 → svM I x = cpyE I 1 464 x := fun x a b => by
    unfold svM
    rw [up_ne (by omega), up_ne (by omega), cpyR_e (by omega)]
  have hJR2 : ∀ x, 495 ≤ x → x < 508 → svM I x = cpyR (cpyE I 1 464) 451 495 x := fun x a b => by
    unfold svM
    rw [up_ne (by omega), up_ne (by omega)]
  have hJ0 : ∀ k, k ≠ 12 → k ≠ 13 → svM I 0 k = I 0 k := fun k a b => by
    unfold svM
    rw [up_nk a, up_nk b, cpyR_e (by omega), cpyE_e (by omega)]
  have hJ12 : svM I 0 12 = 1 := up_eq
  have hJ13 : svM I 0 13 = I 0 11 := by
    unfold svM
    rw [up_nk (by omega), up_eq, cpyR_e (by omega), cpyE_e (by omega)]
  have hJR : RG (svM I) := rg_up (rg_up (rg_cpyR (rg_cpyE h.rg)) (rg_cpyR (rg_cpyE h.rg) _ _)) (by omega)
  have hEs := EL_cpy hE (d := 464) (by omega) i3.1.1
  have hWT := WfT_cpy (I := I) (e := 1) (d := 464) (by omega) ⟨k1.1, k2⟩
  have h464 : ∀ k, svM I 464 k = cpyE I 1 464 464 k := fun k => by rw [hJE 464 (by omega) (by omega)]
  generalize svM I = J at *
  obtain ⟨s1, s2, s3, s4, s5, s6, s7, s8, s9, s10, s11⟩ := svM9_v (J := J)
  have hRF := rg_svM9 hJR
  generalize svM9 J = F at *
  have FI : ∀ x, x ≠ 0 → x < 464 ∨ (508 < x ∧ x ≠ 512 ∧ x ≠ 540) → F x = I x := fun x a b => by rw [s1 x (by omega) (by omega) (by omega), hJ x a (by omega)]
  have F0 : ∀ k, F 0 k = J 0 k := fun k => by rw [s1 0 (by omega) (by omega) (by omega)]
  have F8 : ∀ k, k ≠ 5 → k ≠ 6 → F 508 k = I 508 k := fun k a b => by rw [s2 k a b, hJ 508 (by omega) (by omega)]
  have FE : ∀ x, 464 ≤ x → x < 495 → F x = cpyE I 1 464 x := fun x a b => by rw [s1 x (by omega) (by omega) (by omega), hJE x a b]
  have FR : ∀ x, 495 ≤ x → x < 508 → F x = cpyR (cpyE I 1 464) 451 495 x := fun x a b => by rw [s1 x (by omega) (by omega) (by omega), hJR2 x a b]
  have hc451 : ∀ x, 451 ≤ x → x < 464 → cpyE I 1 464 x = I x := fun x a b => cpyE_e (by omega)
  refine ⟨⟨WfM_of h.mi.1 (hJ 509 (by omega) (by omega)), hJR⟩, ⟨⟨?_, ?_, ?_, ?_, ?_, ?_, ?_, ?_, ?_, ?_, ?_, ?_, ?_, ?_⟩, i2, ?_, ?_, ?_, ?_, ?_, ?_, ?_, ?_, ?_, ?_⟩, ?_⟩
  · exact CI_of k1 (WfE_of k1.1 fun x _ _ => FI x (by omega) (by omega)) hRF fun x _ _ => FI x (by omega) (by omega)
  · rw [FI 1 (by omega) (by omega)]; exact k2
  · exact CI_of k3 (WfE_of k3.1 fun x _ _ => FI x (by omega) (by omega)) hRF fun x _ _ => FI x (by omega) (by omega)
  · exact TI0_of k4 (FI _ (by omega) (by omega)) (FI _ (by omega) (by omega)) (FI _ (by omega) (by omega))
  · exact RI_of k5 (FI _ (by omega) (by omega))
  · unfold RI
    rw [FR 495 (by omega) (by omega), hv.1, hv.2.1, hc451 451 (by omega) (by omega)]
    exact k5
  · exact WfT_of hWT fun x _ _ => FE x (by omega) (by omega)
  · rw [FI 201 (by omega) (by omega)]; exact k8
  · intro k hk
    rw [FI 201 (by omega) (by omega)] at hk
    have := i2.1 k (by omega)
    exact WfT_of (k9 k hk) fun x _ _ => FI x (by omega) (by omega)
  · rw [F0, hJ0 10 (by omega) (by omega)]; exact k10
  · rw [F0, hJ0 11 (by omega) (by omega)]; exact k11
  · rw [F0, hJ12]; exact Or.inr rfl
  · rw [F0, hJ13]; exact k11
  · intro hc
    exact RI_of (k14 (by rw [← hc, F0, hJ0 10 (by omega) (by omega)])) (FI _ (by omega) (by omega))
  · exact TB_of i3 hRF (FI _ (by omega) (by omega)) ⟨F8 _ (by omega) (by omega), F8 _ (by omega) (by omega)⟩ (FI _ (by omega) (by omega)) (FI _ (by omega) (by omega))
  · exact TE_of i4 (FI _ (by omega) (by omega)) (FI _ (by omega) (by omega)) (FI _ (by omega) (by omega)) (F8 _ (by omega) (by omega)) (FI _ (by omega) (by omega))
  · unfold FLs
    rw [FI 198 (by omega) (by omega), FI 201 (by omega) (by omega), F0, F0, hJ12, s3, hJ0 11 (by omega) (by omega), F8 11 (by omega) (by omega), F8 3 (by omega) (by omega), F8 43 (by omega) (by omega)]
    exact ⟨i5.1, i5.2.1, i5.2.2.1, rfl⟩
  · exact ELp_of i6 (fun x _ _ => FI x (by omega) (by omega)) (FI _ (by omega) (by omega))
  · exact HSt_of i7 i2.1 k8 (by rw [FI 201 (by omega) (by omega)]) (fun x _ _ => FI x (by omega) (by omega)) (FI _ (by omega) (by omega)) (by rw [FI 1 (by omega) (by omega)])
  · intro _
    have e9 : ∀ j, j < 265 → sg F 512 0 509 j = I 509 j := fun j hj => by rw [sg_9]; show F 512 (0 + j) = _; rw [Nat.zero_add, s5 j hj, hJ 509 (by omega) (by omega)]
    exact ⟨m, hm, EL_265 hEs i3.1.1 (fun x _ _ => FE x (by omega) (by omega)) e9, WfM_265 i3.1.1 e9⟩
  · exact DRd_of i9 i1 (by rw [F0, hJ0 11 (by omega) (by omega)]) (by rw [FI 1 (by omega) (by omega)]) (fun x _ _ => FI x (by omega) (by omega)) (F8 _ (by omega) (by omega)) (F8 _ (by omega) (by omega)) (FI _ (by omega) (by omega)) (FI _ (by omega) (by omega)) (FI _ (by omega) (by omega))
  · intro _
    have h43 : J 508 43 = I 0 11 := by rw [hJ 508 (by omega) (by omega)]; exact i5.2.2.1.symm
    refine ⟨?_, fun hc => ?_⟩
    · rw [F0, hJ13, s6, h43]
      split <;> omega
    · rw [F0, hJ13] at hc
      obtain ⟨d0, d1, d2, d3, d4, d5⟩ := i9 hc
      have hrg := DR_rng i1 (i9 hc)
      have e44 : J 508 44 = I 508 44 := by rw [hJ 508 (by omega) (by omega)]
      have e45 : J 508 45 = I 508 45 := by rw [hJ 508 (by omega) (by omega)]
      have j7 : J 537 = I 537 := hJ 537 (by omega) (by omega)
      have j8 : J 538 = I 538 := hJ 538 (by omega) (by omega)
      have j9 : J 539 = I 539 := hJ 539 (by omega) (by omega)
      refine ⟨fun k c hk hc8 hn => ?_, ?_, ?_, fun k c hk hc8 => ?_, fun k hk => ?_, fun k hk => ?_⟩
      · rw [s7, e44] at hk
        show F 540 (3 + (8 * k + c)) = 0
        rw [s9 _ (by omega), j7]
        refine d0 k c hk hc8 ?_
        rw [FE 464 (by omega) (by omega), cpyE_0 (by omega)] at hn
        exact hn
      · rw [FR 495 (by omega) (by omega), hv.1, hc451 451 (by omega) (by omega), s7, e44, d1]
      · rw [FR 495 (by omega) (by omega), hv.2.1, hc451 451 (by omega) (by omega), s8, e45, d2]
      · rw [s7, e44] at hk
        show _ = F 540 (3 + (8 * k + c))
        rw [FR _ (by omega) (by omega), hv.2.2.2.2 k c (by omega) hc8, hc451 _ (by omega) (by omega), s9 _ (by omega), j7]
        exact d3 k c hk hc8
      · show _ = F 540 (195 + k)
        rw [FR _ (by omega) (by omega), hv.2.2.2.1 k hk, hc451 _ (by omega) (by omega), s10 k hk, j8]
        exact d4 k hk
      · rw [s8, e45] at hk
        show _ = F 540 (203 + k)
        rw [FR _ (by omega) (by omega), hv.2.2.1 k (by omega), hc451 _ (by omega) (by omega), s11 k (by omega), j9]
        exact d5 k hk
  · exact CNT_of i11 (by rw [F0, hJ0 10 (by omega) (by omega)]) (fun x _ _ => FI x (by omega) (by omega)) (fun x _ _ => FI x (by omega) (by omega))
  · exact CNM_of i12 (F8 _ (by omega) (by omega)) (fun j _ => by rw [FI 509 (by omega) (by omega)]) (fun x _ _ => FI x (by omega) (by omega)) (F8 _ (by omega) (by omega)) (F8 _ (by omega) (by omega))
  · rw [h464, cpE_4, hJ 509 (by omega) (by omega)]
    exact hE.1.2.2.1.trans hE.1.2.2.2.1.symm
