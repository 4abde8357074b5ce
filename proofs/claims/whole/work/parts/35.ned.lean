/-! ELECTIONS: copies -/
/-- the same election in two places -/
def EqE (I : II) (e : Nat) (J : II) (d : Nat) : Prop := I e 0 = J d 0 ∧ I e 2 = J d 2 ∧ I e 4 = J d 4 ∧ (∀ k, k < 4 → I (e + 1) k = J (d + 1) k) ∧ (∀ k, k < 8 → I (e + 2) k = J (d + 2) k) ∧ (∀ p, p < 25 → I (e + 3) p = J (d + 3) p) ∧ (∀ p, p < 25 → I (e + 4) p = J (d + 4) p) ∧ ∀ p k, p < 25 → k < 8 → I (e + 6 + p) k = J (d + 6 + p) k
theorem cpy_in {I : II} {a0 a n k : Nat} (h : k < n) : cpy I a0 a 0 0 n a k = I a0 k := by
  rw [cpy_at]
  show (if 0 ≤ k ∧ k < 0 + n then I a0 (0 + (k - 0)) else I a k) = I a0 k
  rw [if_pos (by omega), Nat.zero_add, Nat.sub_zero]
theorem cpyE_eq {I : II} {e d : Nat} (h : e + 31 ≤ d ∨ d + 31 ≤ e) : EqE (cpyE I e d) d I e := by
  have B : ∀ (K : II) k, k ≤ 25 → (∀ x, x < d + 6 ∨ d + 31 ≤ x → foldUp (fun p J => cpy J (e + 6 + p) (d + 6 + p) 0 0 8) K k x = K x) ∧ ∀ p j, p < k → j < 8 → foldUp (fun p J => cpy J (e + 6 + p) (d + 6 + p) 0 0 8) K k (d + 6 + p) j = K (e + 6 + p) j := by
    intro K k
    induction k with
    | zero => exact fun _ => ⟨fun _ _ => rfl, fun p j hp => by omega⟩
    | succ k ih =>
      intro hk
      obtain ⟨i1, i2⟩ := ih (by omega)
      refine ⟨fun x hx => (cpy_ne (by omega)).trans (i1 x hx), fun p j hp hj => ?_⟩
      show cpy (foldUp _ K k) (e + 6 + k) (d + 6 + k) 0 0 8 (d + 6 + p) j = _
      by_cases q : p = k
      · subst q
        rw [cpy_in hj, i1 _ (by omega)]
      · rw [cpy_ne (by omega)]
        exact i2 p j (by omega) hj
  unfold cpyE
  generalize hK : cpy (cpy (cpy (cpy (up (up (up I d 0 (I e 0)) d 2 (up I d 0 (I e 0) e 2)) d 4 (up (up I d 0 (I e 0)) d 2 (up I d 0 (I e 0) e 2) e 4)) (e + 1) (d + 1) 0 0 4) (e + 2) (d + 2) 0 0 8) (e + 3) (d + 3) 0 0 25) (e + 4) (d + 4) 0 0 25 = K
  obtain ⟨b1, b2⟩ := B K 25 (Nat.le_refl _)
  have k0 : K d = up (up (up I d 0 (I e 0)) d 2 (up I d 0 (I e 0) e 2)) d 4 (up (up I d 0 (I e 0)) d 2 (up I d 0 (I e 0) e 2) e 4) d := by
    rw [← hK, cpy_ne (by omega), cpy_ne (by omega), cpy_ne (by omega), cpy_ne (by omega)]
  refine ⟨?_, ?_, ?_, fun k hk => ?_, fun k hk => ?_, fun k hk => ?_, fun k hk => ?_, fun p k hp hk => ?_⟩
  · rw [b1 d (by omega), k0, up_nk (by omega), up_nk (by omega), up_eq]
  · rw [b1 d (by omega), k0, up_nk (by omega), up_eq, up_ne (by omega)]
  · rw [b1 d (by omega), k0, up_eq, up_ne (by omega), up_ne (by omega)]
  · rw [b1 _ (by omega), ← hK, cpy_ne (by omega), cpy_ne (by omega), cpy_ne (by omega), cpy_in hk, up_ne (by omega), up_ne (by omega), up_ne (by omega)]
  · rw [b1 _ (by omega), ← hK, cpy_ne (by omega), cpy_ne (by omega), cpy_in hk, cpy_ne (by omega), up_ne (by omega), up_ne (by omega), up_ne (by omega)]
  · rw [b1 _ (by omega), ← hK, cpy_ne (by omega), cpy_in hk, cpy_ne (by omega), cpy_ne (by omega), up_ne (by omega), up_ne (by omega), up_ne (by omega)]
  · rw [b1 _ (by omega), ← hK, cpy_in hk, cpy_ne (by omega), cpy_ne (by omega), cpy_ne (by omega), up_ne (by omega), up_ne (by omega), up_ne (by omega)]
  · rw [b2 p k hp hk, ← hK, cpy_ne (by omega), cpy_ne (by omega), cpy_ne (by omega), cpy_ne (by omega), up_ne (by omega), up_ne (by omega), up_ne (by omega)]
theorem WfE_eq {I J : II} {e d : Nat} (h : EqE J d I e) (w : WfE I e) : WfE J d := by
  obtain ⟨h0, h2, h4, hs, hl, hz, hn, hr⟩ := h
  obtain ⟨w0, w1, w2, w3, w4, w5, w6, w7, w8, w9, w10, w11, w12, w13⟩ := w
  unfold WfE
  rw [h0, h2, h4, hs 0 (by omega), hs 1 (by omega), hs 2 (by omega), hs 3 (by omega)]
  exact ⟨w0, w1, w2, w3, w4, w5, fun p hp => by rw [hz p hp]; exact w6 p hp, fun p hp => by rw [hn p hp]; exact w7 p hp, fun p k hp hk => by rw [hr p k hp hk]; exact w8 p k hp hk, fun k hk => by rw [hl k hk]; exact w9 k hk, w10, w11, w12, w13⟩
theorem rg_cpyE {I : II} {e d : Nat} (h : RG I) : RG (cpyE I e d) :=
  rg_fold (rg_cpy (rg_cpy (rg_cpy (rg_cpy (rg_up (rg_up (rg_up h (h _ _)) (rg_up h (h _ _) _ _)) (rg_up (rg_up h (h _ _)) (rg_up h (h _ _) _ _) _ _)))))) (fun _ _ hJ => rg_cpy hJ) _
theorem rg_cpyR {I : II} {e d : Nat} (h : RG I) : RG (cpyR I e d) :=
  rg_fold (rg_cpy (rg_cpy (rg_up (rg_up h (h _ _)) (rg_up h (h _ _) _ _)))) (fun _ _ hJ => rg_cpy hJ) _
theorem CI_of {I J : II} {c e : Nat} (h : CI I c e) (hW : WfE J e) (hR : RG J) (hx : ∀ x, c ≤ x → x < c + 52 → J x = I x) : CI J c e := by
  obtain ⟨g1, g2, g3, g4, g5, g6, g7⟩ := h
  unfold CI
  rw [hx c (by omega) (by omega), hx (c + 1) (by omega) (by omega), hx (c + 49) (by omega) (by omega), hx (c + 19 + 7) (by omega) (by omega)]
  exact ⟨hW, hR, g3, g4, g5, g6, g7⟩
theorem WfE_addFor {I : II} {e : Nat} {z : Int} (h : WfE I e) (h4 : I e 4 ≤ 24) (hz : 0 ≤ z ∧ z < 8) : WfE (addForM I e z) e := by
  have h9 := h.2.2.1
  exact WfE_piles (WfE_rank (WfE_len (WfE_size h (by omega)) (by omega)) hz) (by omega)
theorem addFor_e {I : II} {e x : Nat} {z : Int} (hx : x < e ∨ e + 31 ≤ x) (h4 : 0 ≤ I e 4 ∧ I e 4 ≤ 24) : addForM I e z x = I x := by
  unfold addForM
  rw [up_ne (by omega), up_ne (by omega), up_ne (by omega), up_ne (by omega)]
theorem rg_addFor {I : II} {e : Nat} {z : Int} (h : RG I) (hz : 0 ≤ z ∧ z < 8) (h4 : 0 ≤ I e 4 ∧ I e 4 ≤ 24) : RG (addForM I e z) :=
  rg_up (rg_up (rg_up (rg_up h (by omega)) (by omega)) (by omega)) (by omega)
/-! needed -/
/-- trials with n papers more, and more: the answer, the cells -/
def ndL (c p : Nat) : Nat → Nat → II → RR
  | 0, _, K => okI (-1) K
  | f + 1, n, K => if runM (up K (63 + 3) p n) 146 63 (146 + 1 + 2) c = 1 then okI n (runM (up K (63 + 3) p n) 146 63) else ndL c p f (n + 1) (runM (up K (63 + 3) p n) 146 63)
def ndR (I : II) (c : Int) : RR := if icF I c = 0 then erI IOB I else if ctM I (94 + 1 + 2) c.toNat = 1 then okI 0 (ctM I) else if ctM I (94 + 1 + 2) c.toNat = 3 then okI (-1) (ctM I) else ndL c.toNat (ctM I 1 4).toNat 60 1 (addForM (cpyE (ctM I) 1 63) 63 c)

set_option maxRecDepth 100000 in
set_option maxHeartbeats 4000000 in
theorem c_neededL {l : Launch} {g : GV} {S : SS} {I : II} {X : XX} {cn p : Nat} {sl : Nat → Nat} {s0 : Option Value} (hfl : l.stackTraces = false) (hno : S.2.2 = false) (hL : LC S sl) (hc : cn < 8) (hp : p ≤ 24) : ∀ n : Nat, n ≤ 61 → ∀ K : II, CI K 146 63 → K 63 4 = (p : Int) + 1 → V l g mX8_needed 6 (Zm g (QT (ndL cn p (61 - n) n K) S X)) 1 6 68 [some (.ref 0), some (.int (ii (cn : Int))), s0, some (.int (ii (p : Int))), some (.int (ii (n : Int)))] [] S K X := by
  obtain ⟨m0, p0, p1, p2, p3, p4, p5, p6, p7, p8, p9, hE1, hE2, hC1, hC2, hT, hH, hR1, hE3, hR2⟩ := id hL
  obtain ⟨v0, v1, v2, v3, v4, v5, v6, v6a, v7, v7a, v8, v8a, v9, v9a, v10, v10a, hRv, hHv, hFv, hGv, hEv, hspv⟩ := id hC2
  obtain ⟨q0, q1, q1a, q2, q2a, q3, q3a, qq⟩ := id hRv
  have hE4 := hEv
  obtain ⟨u0, u1, u1a, u2, u2a, u3, u3a, u4, u4a, u5, u5a, ur⟩ := id hE4
  refine loop_up fun n hn ih => ?_
  intro K hKI h4
  refine v_iload dX8_needed_68 rfl ?_
  refine v_bipush dX8_needed_70 (by decide) ?_
  refine v_ic_gt (tgt := 117) dX8_needed_72 (by decide) (fun h72 => ?_) (fun h72 => ?_)
  · refine v_iconst dX8_needed_117 ?_
    exact v_iT dX8_needed_118 rfl hno (by rw [show 61 - n = 0 by omega]; rfl)
  · have kS : CI (up K (63 + 3) p (n : Int)) 146 63 := CI_of hKI (WfE_size hKI.1 (by omega)) (rg_up hKI.2.1 (by omega)) (fun x h1 h2 => up_ne (by omega))
    have kR := CI_run kS (by omega)
    have g9 := kR.2.1 (146 + 1 + 2) cn
    have ex : ndL cn p (61 - n) n K = if runM (up K (63 + 3) p n) 146 63 (146 + 1 + 2) cn = 1 then okI n (runM (up K (63 + 3) p n) 146 63) else ndL cn p (61 - (n + 1)) (n + 1) (runM (up K (63 + 3) p n) 146 63) := by
      rw [show 61 - n = (61 - (n + 1)) + 1 by omega]
      rfl
    have k4 : runM (up K (63 + 3) p n) 146 63 63 4 = K 63 4 := by rw [run_e (by omega), up_ne (by omega)]
    refine v_aload_n dX8_needed_75 rfl ?_
    refine v_getr dX8_needed_76 fr_X8_19 (by assumption) (by decide) rfl (by assumption) ?_
    refine v_iload_n dX8_needed_79 rfl ?_
    refine v_iload dX8_needed_80 rfl ?_
    refine v_cV2n dX8_needed_82 lk_X8_304 (by assumption) (by decide) rfl (c_resize hfl hE4 (by omega) (by omega)) (by decide) (Nat.le_of_ble_eq_true rfl) ?_ rfl
    refine v_aload_n dX8_needed_85 rfl ?_
    refine v_getr dX8_needed_86 fr_X8_31 (by assumption) (by decide) rfl (by assumption) ?_
    refine v_cV0n dX8_needed_89 lk_X8_307 (by assumption) (by decide) rfl (c_run hfl hC2 kS) (by decide) (Nat.le_of_ble_eq_true rfl) ?_ rfl
    refine v_aload_n dX8_needed_92 rfl ?_
    refine v_getr dX8_needed_93 fr_X8_31 (by assumption) (by decide) rfl (by assumption) ?_
    refine v_getr dX8_needed_96 fr_X8_178 (by assumption) (by decide) rfl (by assumption) ?_
    refine v_getr dX8_needed_99 fr_X8_222 (by assumption) (by decide) rfl (by assumption) ?_
    refine v_iload_n dX8_needed_102 rfl ?_
    refine v_iald (j := cn) dX8_needed_103 (by assumption) (by first | rfl | omega) (by omega) ?_
    refine v_iconst dX8_needed_104 ?_
    refine v_ic_ne (tgt := 111) dX8_needed_105 (by decide) (fun h105 => ?_) (fun h105 => ?_)
    · refine v_iinc4 dX8_needed_111 rfl ?_
      refine v_goto (tgt := 68) dX8_needed_114 (by decide) ?_
      rw [ex, if_neg (by omega)]
      exact ih (n + 1) (by omega) (by omega) _ kR (by rw [k4, h4])
    · refine v_iload dX8_needed_108 rfl ?_
      exact v_iT dX8_needed_110 rfl hno (by rw [ex, if_pos h105]; rfl)

set_option maxRecDepth 100000 in
set_option maxHeartbeats 4000000 in
theorem c_needed {l : Launch} {g : GV} {S : SS} {I : II} {X : XX} {c : Int} {sl : Nat → Nat} (hfl : l.stackTraces = false) (hno : S.2.2 = false) (hL : LC S sl) (hK : KC I sl) (hc : -2147483648 ≤ c ∧ c < 2147483648)  : CT l g mX8_needed 6 1 6 [.ref 0, .int (ii c)] S I X (QT (ndR I c) S X) := by
  obtain ⟨m0, p0, p1, p2, p3, p4, p5, p6, p7, p8, p9, hE1, hE2, hC1, hC2, hT, hH, hR1, hE3, hR2⟩ := id hL
  obtain ⟨y0, y1, y1a, y2, y2a, y3, y3a, y4, y4a, y5, y5a, yr⟩ := id hE1
  obtain ⟨a0, a1, a2, a3⟩ := id hH
  obtain ⟨t0, t1, t1a, t2, t2a⟩ := id hT
  have e20 := hE2.1
  have e30 := hE3.1
  have d10 := hR1.1
  have d20 := hR2.1
  have c10 := hC1.1
  have c20 := hC2.1
  obtain ⟨hI, h24, hI2, hTI, hRd, hRs, hWs, hz01, hSl, b10, b11, b12, b13, hRc⟩ := id hK
  obtain ⟨w0, w1, w2, w3, w4, w5, w6, w7, w8, w9, w10, w11, w12, w13⟩ := id hI.1
  have hCt := ct_CI hI
  have hRt : RI (ctM I) (94 + 1) := ct_RI hI b10 hRc
  have e1t : ctM I 1 = I 1 := ct_1
  obtain ⟨n0, n1, n2, n3, n4, n5, n6, n6a, n7, n7a, n8, n8a, n9, n9a, n10, n10a, hR, hHc, hF, hG, hEc, hsp⟩ := id hC1
  obtain ⟨r0, r1, r1a, r2, r2a, r3, r3a, rr⟩ := id hR
  obtain ⟨f0, f1, f1a, f2, f2a, f3, f3a⟩ := id hF
  obtain ⟨l0, ⟨l1, l1a⟩, ⟨l2, l2a⟩, ⟨l3, l3a⟩, ⟨l4, l4a⟩, ⟨l5, l5a⟩, ⟨l6, l6a⟩, ⟨l7, l7a⟩, ⟨l8, l8a⟩, lr, ⟨l9, l9a⟩, lw⟩ := id hG
  have hE4 : isEl S 63 := by obtain ⟨v0, v1, v2, v3, v4, v5, v6, v6a, v7, v7a, v8, v8a, v9, v9a, v10, v10a, hRv, hHv, hFv, hGv, hEv, hspv⟩ := id hC2; exact hEv
  have e40 := hE4.1
  refine v_start hfl rfl (by decide) (Nat.le_of_ble_eq_true rfl) (ls := [some (.ref 0), some (.int (ii c)), none, none, none]) rfl ?_
  refine v_aload_n dX8_needed_0 rfl ?_
  refine v_iload_n dX8_needed_1 rfl ?_
  refine v_cV1 dX8_needed_2 lk_X8_135 (by assumption) (by decide) rfl (c_isCand hfl hL hI.1 hc) (by decide) (Nat.le_of_ble_eq_true rfl) ?_ rfl
  have h01 := icF_01 I c
  refine v_if_ne (tgt := 18) dX8_needed_5 (by decide) (fun h5 => ?_) (fun h5 => ?_)
  · have hcc : ¬ icF I c = 0 := h5
    obtain ⟨k1, k2⟩ := icF_1 h5
    obtain ⟨cn, rfl⟩ := Int.eq_ofNat_of_zero_le k1
    have cn8 : cn < 8 := by omega
    have g9 := hCt.2.1 (94 + 1 + 2) cn
    refine v_aload_n dX8_needed_18 rfl ?_
    refine v_cV0 dX8_needed_19 lk_X8_174 (by assumption) (by decide) rfl (c_counted hfl hL hI b10) (by decide) (Nat.le_of_ble_eq_true rfl) ?_ rfl
    refine v_getr dX8_needed_22 fr_X8_178 (by assumption) (by decide) rfl (by assumption) ?_
    refine v_getr dX8_needed_25 fr_X8_222 (by assumption) (by decide) rfl (by assumption) ?_
    refine v_iload_n dX8_needed_28 rfl ?_
    refine v_iald (j := cn) dX8_needed_29 (by assumption) (by first | rfl | omega) (by omega) ?_
    refine v_istn2 dX8_needed_30 rfl ?_
    refine v_iload_n dX8_needed_31 rfl ?_
    refine v_iconst dX8_needed_32 ?_
    refine v_ic_ne (tgt := 38) dX8_needed_33 (by decide) (fun h33 => ?_) (fun h33 => ?_)
    · refine v_iload_n dX8_needed_38 rfl ?_
      refine v_iconst dX8_needed_39 ?_
      refine v_ic_ne (tgt := 45) dX8_needed_40 (by decide) (fun h40 => ?_) (fun h40 => ?_)
      · refine v_aload_n dX8_needed_45 rfl ?_
        refine v_getr dX8_needed_46 fr_X8_19 (by assumption) (by decide) rfl (by assumption) ?_
        refine v_aload_n dX8_needed_49 rfl ?_
        refine v_getr dX8_needed_50 fr_X8_10 (by assumption) (by decide) rfl (by assumption) ?_
        refine v_cV1n dX8_needed_53 lk_X8_102 (by assumption) (by decide) rfl (c_copyFrom hfl hE1 hE4) (by decide) (Nat.le_of_ble_eq_true rfl) ?_ rfl
        have hQ := cpyE_eq (I := ctM I) (e := 1) (d := 63) (Or.inl (by omega))
        have hQW := WfE_eq hQ hCt.1
        have hQ4 : cpyE (ctM I) 1 63 63 4 = I 1 4 := by rw [hQ.2.2.1, e1t]
        refine v_aload_n dX8_needed_56 rfl ?_
        refine v_getr dX8_needed_57 fr_X8_19 (by assumption) (by decide) rfl (by assumption) ?_
        refine v_iload_n dX8_needed_60 rfl ?_
        refine v_cV1 dX8_needed_61 lk_X8_301 (by assumption) (by decide) rfl (c_addPileFor hfl hE4 (by omega) (by omega)) (by decide) (Nat.le_of_ble_eq_true rfl) ?_ rfl
        have hKA : CI (addForM (cpyE (ctM I) 1 63) 63 cn) 146 63 := CI_of hI2 (WfE_addFor hQW (by omega) (by omega)) (rg_addFor (rg_cpyE hCt.2.1) (by omega) (by omega)) (fun x h1 h2 => by rw [addFor_e (Or.inr (by omega)) (by omega), cpyE_e (Or.inr (by omega)), ct_h (by omega)])
        have hK4 : addForM (cpyE (ctM I) 1 63) 63 cn 63 4 = I 1 4 + 1 := by unfold addForM; rw [up_eq, hQ4]
        obtain ⟨pn, hpn⟩ := Int.eq_ofNat_of_zero_le w2
        rw [hQ4, hpn]
        refine v_istn3 dX8_needed_64 rfl ?_
        refine v_iconst dX8_needed_65 ?_
        refine v_ist4 dX8_needed_66 rfl ?_
        have q9 := c_neededL (s0 := some (.int (ii (ctM I (94 + 1 + 2) cn)))) (X := X) (g := g) (I := I) hfl hno hL cn8 (show pn ≤ 24 by omega) 1 (by omega) _ hKA (by omega)
        have er : ndR I (cn : Int) = ndL cn pn 60 1 (addForM (cpyE (ctM I) 1 63) 63 cn) := by
          unfold ndR
          rw [if_neg hcc, Int.toNat_natCast, if_neg h33, if_neg h40, e1t, hpn]
          rfl
        rw [er]
        exact q9
      · refine v_iconst dX8_needed_43 ?_
        exact v_iT dX8_needed_44 rfl hno (by unfold ndR; rw [if_neg hcc, Int.toNat_natCast, if_neg h33, if_pos h40]; rfl)
    · refine v_iconst dX8_needed_36 ?_
      exact v_iT dX8_needed_37 rfl hno (by unfold ndR; rw [if_neg hcc, Int.toNat_natCast, if_pos h33]; rfl)
  · exact v_thT th_X8_141_139 rfl dX8_needed_8 dX8_needed_11 (Or.inl dX8_needed_12) dX8_needed_14 dX8_needed_17 (by decide) (Nat.le_of_ble_eq_true rfl) (by decide) (by decide) hno (by unfold ndR; rw [if_pos (by omega)]; rfl)
