/-! BETWEEN CALLS: what holds of class and model in one memory -/
theorem EL_265 {I I2 J J2 : II} {e nC nM : Nat} (h : EL I e J nC nM) (hW : WfM J) (h1 : ∀ x, e ≤ x → x < e + 31 → I2 x = I x) (h2 : ∀ j, j < 265 → J2 509 j = J 509 j) : EL I2 e J2 nC nM := by
  obtain ⟨⟨a1, a2, a3, a4, a5, a6⟩, b, d, f, g, k⟩ := h
  have w0 := hW.1
  refine ⟨⟨by rw [h1 e (by omega) (by omega), h2 0 (by omega)]; exact a1, by rw [h1 e (by omega) (by omega), h2 2 (by omega)]; exact a2, by rw [h1 e (by omega) (by omega)]; exact a3, by rw [h2 1 (by omega)]; exact a4, a5, a6⟩, fun i hi => by rw [h1 _ (by omega) (by omega), h2 _ (by omega)]; exact b i hi, fun i hi => by rw [h1 _ (by omega) (by omega), h2 _ (by omega)]; exact d i hi, fun p hp => ?_, fun p hp1 hp2 => ?_, fun c hc => ?_⟩
  · have w4 := hW.2.2.2.2.1 p (by omega)
    have e3 : mLn J2 p = mLn J p := h2 _ (by omega)
    have e4 : mSz J2 p = mSz J p := h2 _ (by omega)
    obtain ⟨f1, f2, f3⟩ := f p hp
    rw [h1 _ (by omega) (by omega), h1 _ (by omega) (by omega), e3, e4]
    refine ⟨f1, f2, fun i hi => ?_⟩
    rw [h1 _ (by omega) (by omega), f3 i hi]
    exact (h2 (17 + 10 * p + i) (by omega)).symm
  · have e4 : mSz J2 p = mSz J p := h2 _ (by omega)
    rw [e4]
    exact g p hp1 hp2
  · rw [h2 0 (by omega)] at hc ⊢
    obtain ⟨i, hi, hi2⟩ := k c hc
    exact ⟨i, hi, by rw [h2 _ (by omega)]; exact hi2⟩
theorem WfM_265 {J J2 : II} (h : WfM J) (h2 : ∀ j, j < 265 → J2 509 j = J 509 j) : WfM J2 := by
  obtain ⟨w0, w1, w2, w3, w4, w5, w6, w7, w8, w9, w10⟩ := h
  refine ⟨by rw [h2 0 (by omega)]; exact w0, by rw [h2 1 (by omega)]; exact w1, by rw [h2 2 (by omega)]; exact w2, fun p hp => ?_, fun p hp => ?_, fun p k hp hk => ?_, fun k hk => by rw [h2 _ (by omega)]; exact w6 k hk, by rw [h2 3 (by omega)]; exact w7, by rw [h2 4 (by omega)]; exact w8, by rw [h2 5 (by omega)]; exact w9, by rw [h2 6 (by omega)]; exact w10⟩
  · have e : mSz J2 p = mSz J p := h2 _ (by omega)
    rw [e]; exact w3 p hp
  · have e : mLn J2 p = mLn J p := h2 _ (by omega)
    rw [e]; exact w4 p hp
  · have e : mRk J2 p k = mRk J p k := h2 _ (by omega)
    rw [e]; exact w5 p k hp hk
def sg (I : II) (r o : Nat) : II := fun x => if x = 509 then (fun j => I r (o + j)) else I x
theorem sg_9 {I : II} {r o : Nat} : sg I r o 509 = fun j => I r (o + j) := if_pos rfl
/-- a result against one that the model holds in these rows -/
def DRp (I : II) (r : Nat) (nc R W : Int) (fv fs fw : Nat → Int) : Prop := (∀ k c : Nat, (k : Int) < R → c < 8 → nc ≤ (c : Int) → fv (8 * k + c) = 0) ∧ I r 0 = R ∧ I r 1 = W ∧ (∀ k c : Nat, (k : Int) < R → c < 8 → I (r + 4 + k) c = fv (8 * k + c)) ∧ (∀ k, k < 8 → I (r + 2) k = fs k) ∧ ∀ k : Nat, (k : Int) < W → I (r + 1) k = fw k
def DRd (I : II) : Prop := I 0 11 = 1 → DRp I 451 (I 1 0) (I 508 44) (I 508 45) (I 537) (I 538) (I 539)
def DRs (I : II) : Prop := I 0 12 = 1 → I 0 13 = I 540 0 ∧ (I 0 13 = 1 → DRp I 495 (I 464 0) (I 540 1) (I 540 2) (fun j => I 540 (3 + j)) (fun j => I 540 (195 + j)) (fun j => I 540 (203 + j)))
def ELs (I : II) (e r o : Nat) : Prop := ∃ n, n ≤ 24 ∧ EL I e (sg I r o) n n ∧ WfM (sg I r o)
def HSt (I : II) (sl : Nat → Nat) : Prop := ∀ k : Nat, (k : Int) < I 201 1 → ELs I (sl k) 511 (265 * k) ∧ I (sl k) 0 = I 1 0
def CNT (I : II) : Prop := I 0 10 = 1 → ∃ A : II, CI A 94 1 ∧ (∀ x, 1 ≤ x → x < 32 → A x = I x) ∧ ∀ x, 94 ≤ x → x < 146 → I x = runM A 94 1 x
def CNM (I : II) : Prop := (I 508 14 = 0 ∨ I 508 14 = 1) ∧ (I 508 14 = 1 → ∃ B K : II, MI B ∧ (∀ j, j < 265 → B 509 j = I 509 j) ∧ cnO B = some K ∧ (∀ x, 515 ≤ x → x ≤ 536 → I x = K x) ∧ I 508 15 = K 508 15 ∧ I 508 32 = K 508 32)
def SlD (sl : Nat → Nat) : Prop := SlO sl ∧ ∀ i j, i < 8 → j < 8 → i ≠ j → sl i + 31 ≤ sl j ∨ sl j + 31 ≤ sl i
def FLs (I : II) : Prop := I 198 5 = I 508 11 ∧ I 201 1 = I 508 3 ∧ I 0 11 = I 508 43 ∧ I 0 12 = I 508 5
def ELp (I : II) : Prop := ∃ n, n ≤ 24 ∧ EL I 1 I n n
def IV (I : II) (sl : Nat → Nat) : Prop := KC I sl ∧ SlD sl ∧ TB I ∧ TE I I ∧ FLs I ∧ ELp I ∧ HSt I sl ∧ (I 0 12 = 1 → ELs I 464 512 0) ∧ DRd I ∧ DRs I ∧ CNT I ∧ CNM I
theorem IV.rg {I : II} {sl : Nat → Nat} (h : IV I sl) : RG I := h.2.2.1.1.2
theorem IV.mi {I : II} {sl : Nat → Nat} (h : IV I sl) : MI I := h.2.2.1.1
theorem RI_of {I J : II} {r : Nat} (h : RI I r) (hx : J r = I r) : RI J r := by
  unfold RI
  rw [hx]
  exact h
/-- the class's part where nothing of it changes -/
theorem KC_of {I J : II} {sl : Nat → Nat} (h : KC I sl) (hS : SlO sl) (hR : RG J) (hx : ∀ x, 1 ≤ x → x < 508 → J x = I x) (h0 : ∀ k, 10 ≤ k → k ≤ 13 → J 0 k = I 0 k) : KC J sl := by
  obtain ⟨k1, k2, k3, k4, k5, k6, k7, k8, k9, k10, k11, k12, k13, k14⟩ := h
  refine ⟨CI_of k1 (WfE_of k1.1 fun x _ _ => hx x (by omega) (by omega)) hR fun x _ _ => hx x (by omega) (by omega), by rw [hx 1 (by omega) (by omega)]; exact k2, CI_of k3 (WfE_of k3.1 fun x _ _ => hx x (by omega) (by omega)) hR fun x _ _ => hx x (by omega) (by omega), TI0_of k4 (hx _ (by omega) (by omega)) (hx _ (by omega) (by omega)) (hx _ (by omega) (by omega)), RI_of k5 (hx _ (by omega) (by omega)), RI_of k6 (hx _ (by omega) (by omega)), WfT_of k7 fun x _ _ => hx x (by omega) (by omega), by rw [hx 201 (by omega) (by omega)]; exact k8, fun k hk => ?_, by rw [h0 10 (by omega) (by omega)]; exact k10, by rw [h0 11 (by omega) (by omega)]; exact k11, by rw [h0 12 (by omega) (by omega)]; exact k12, by rw [h0 13 (by omega) (by omega)]; exact k13, fun hc => RI_of (k14 (by rw [← h0 10 (by omega) (by omega)]; exact hc)) (hx _ (by omega) (by omega))⟩
  rw [hx 201 (by omega) (by omega)] at hk
  have := hS k (by omega)
  exact WfT_of (k9 k hk) fun x _ _ => hx x (by omega) (by omega)
theorem sg_of {I J : II} {r o : Nat} (h : J r = I r) : sg J r o 509 = sg I r o 509 := by rw [sg_9, sg_9, h]
theorem ELs_of {I J : II} {e r o : Nat} (h : ELs I e r o) (h1 : ∀ x, e ≤ x → x < e + 31 → J x = I x) (h2 : J r = I r) : ELs J e r o := by
  obtain ⟨n, hn, hE, hW⟩ := h
  exact ⟨n, hn, EL_of hE h1 (sg_of h2), WfM_of hW (sg_of h2)⟩
theorem DRp_of {I J : II} {r : Nat} {nc R W : Int} {fv fs fw : Nat → Int} (h : DRp I r nc R W fv fs fw) (hR : 0 ≤ R ∧ R ≤ 9) (h1 : ∀ x, r ≤ x → x < r + 13 → J x = I x) : DRp J r nc R W fv fs fw := by
  obtain ⟨d0, d1, d2, d3, d4, d5⟩ := h
  refine ⟨d0, by rw [h1 r (by omega) (by omega)]; exact d1, by rw [h1 r (by omega) (by omega)]; exact d2, fun k c hk hc => ?_, fun k hk => ?_, fun k hk => ?_⟩
  · rw [h1 (r + 4 + k) (by omega) (by omega)]; exact d3 k c hk hc
  · rw [h1 (r + 2) (by omega) (by omega)]; exact d4 k hk
  · rw [h1 (r + 1) (by omega) (by omega)]; exact d5 k hk
theorem TB_of {I J : II} (h : TB I) (hR : RG J) (h9 : J 509 = I 509) (h8 : J 508 8 = I 508 8 ∧ J 508 13 = I 508 13) (h13 : J 513 = I 513) (h14 : J 514 = I 514) : TB J := by
  obtain ⟨a, b, c, d, e, f⟩ := h
  exact ⟨⟨WfM_of a.1 h9, hR⟩, by rw [h8.1]; exact b, by rw [h13]; exact c, by rw [h14]; exact d, by rw [h8.2]; exact e, by rw [h9]; exact f⟩
theorem TE_of {I J : II} (h : TE I I) (h1 : J 198 = I 198) (h2 : J 199 = I 199) (h3 : J 200 = I 200) (h8 : J 508 8 = I 508 8) (h13 : J 513 = I 513) : TE J J := by
  obtain ⟨a, b, c⟩ := h
  exact ⟨TI0_of a h1 h2 h3, by rw [h1, h8]; exact b, by rw [h2, h13]; exact c⟩
theorem CNT_of {I J : II} (h : CNT I) (h0 : J 0 10 = I 0 10) (h1 : ∀ x, 1 ≤ x → x < 32 → J x = I x) (h2 : ∀ x, 94 ≤ x → x < 146 → J x = I x) : CNT J := by
  intro hc
  obtain ⟨A, a, b, c⟩ := h (by rw [← h0]; exact hc)
  exact ⟨A, a, fun x y z => (b x y z).trans (h1 x y z).symm, fun x y z => (h2 x y z).trans (c x y z)⟩
theorem CNM_of {I J : II} (h : CNM I) (h14 : J 508 14 = I 508 14) (h9 : ∀ j, j < 265 → J 509 j = I 509 j) (hx : ∀ x, 515 ≤ x → x ≤ 536 → J x = I x) (h15 : J 508 15 = I 508 15) (h32 : J 508 32 = I 508 32) : CNM J := by
  refine ⟨by rw [h14]; exact h.1, fun hc => ?_⟩
  obtain ⟨B, K, b1, b2, b3, b4, b5, b6⟩ := h.2 (by rw [← h14]; exact hc)
  exact ⟨B, K, b1, fun j hj => (b2 j hj).trans (h9 j hj).symm, b3, fun x y z => (hx x y z).trans (b4 x y z), h15.trans b5, h32.trans b6⟩
theorem HSt_of {I J : II} {sl : Nat → Nat} (h : HSt I sl) (hS : SlO sl) (h8 : 0 ≤ I 201 1 ∧ I 201 1 ≤ 8) (h1 : J 201 1 = I 201 1) (hx : ∀ x, 203 ≤ x → x < 451 → J x = I x) (h2 : J 511 = I 511) (h0 : J 1 0 = I 1 0) : HSt J sl := by
  intro k hk
  rw [h1] at hk
  have := hS k (by omega)
  exact ⟨ELs_of (h k hk).1 (fun x _ _ => hx x (by omega) (by omega)) h2, by rw [hx _ (by omega) (by omega), h0]; exact (h k hk).2⟩
theorem EL_1of {I J : II} {n : Nat} (h : EL I 1 I n n) (h1 : ∀ x, 1 ≤ x → x < 32 → J x = I x) (h9 : J 509 = I 509) : EL J 1 J n n := EL_of h (fun x a b => h1 x a (by omega)) h9
theorem ELp_of {I J : II} (h : ELp I) (h1 : ∀ x, 1 ≤ x → x < 32 → J x = I x) (h9 : J 509 = I 509) : ELp J := by
  obtain ⟨n, hn, hE⟩ := h
  exact ⟨n, hn, EL_1of hE h1 h9⟩
theorem DR_rng {I : II} {sl : Nat → Nat} (h : KC I sl) {nc R W : Int} {fv fs fw : Nat → Int} (hd : DRp I 451 nc R W fv fs fw) : (0 ≤ R ∧ R ≤ 9) ∧ 0 ≤ W ∧ W ≤ 8 := by
  have h5 := h.2.2.2.2.1
  unfold RI at h5
  rw [hd.2.1, hd.2.2.1] at h5
  exact h5
theorem DS_rng {I : II} {sl : Nat → Nat} (h : KC I sl) {nc R W : Int} {fv fs fw : Nat → Int} (hd : DRp I 495 nc R W fv fs fw) : (0 ≤ R ∧ R ≤ 9) ∧ 0 ≤ W ∧ W ≤ 8 := by
  have h5 := h.2.2.2.2.2.1
  unfold RI at h5
  rw [hd.2.1, hd.2.2.1] at h5
  exact h5
theorem DRd_of {I J : II} {sl : Nat → Nat} (h : DRd I) (hK : KC I sl) (h0 : J 0 11 = I 0 11) (h10 : J 1 0 = I 1 0) (hx : ∀ x, 451 ≤ x → x < 464 → J x = I x) (h44 : J 508 44 = I 508 44) (h45 : J 508 45 = I 508 45) (h7 : J 537 = I 537) (h8 : J 538 = I 538) (h9 : J 539 = I 539) : DRd J := by
  intro hc
  have hd := h (by rw [← h0]; exact hc)
  rw [h44, h45, h7, h8, h9, h10]
  exact DRp_of hd (DR_rng hK hd).1 (fun x a b => hx x a (by omega))
theorem DRs_of {I J : II} {sl : Nat → Nat} (h : DRs I) (hK : KC I sl) (h0 : J 0 12 = I 0 12) (h10 : J 464 0 = I 464 0) (h3 : J 0 13 = I 0 13) (hx : ∀ x, 495 ≤ x → x < 508 → J x = I x) (h7 : J 540 = I 540) : DRs J := by
  intro hc
  obtain ⟨hd1, hd⟩ := h (by rw [← h0]; exact hc)
  rw [h3, h7, h10]
  exact ⟨hd1, fun h13 => DRp_of (hd h13) (DS_rng hK (hd h13)).1 (fun x a b => hx x a (by omega))⟩
/-- all of it where nothing of it changes -/
theorem IV_of {I J : II} {sl : Nat → Nat} (h : IV I sl) (hR : RG J) (hx : ∀ x, x ≠ 508 → J x = I x) (h8 : ∀ k, k ≠ 6 → J 508 k = I 508 k) : IV J sl := by
  obtain ⟨i1, i2, i3, i4, i5, i6, i7, i8, i9, i10, i11, i12⟩ := h
  have h00 : J 0 = I 0 := hx 0 (by omega)
  refine ⟨KC_of i1 i2.1 hR (fun x _ _ => hx x (by omega)) (fun k _ _ => by rw [h00]), i2, TB_of i3 hR (hx _ (by omega)) ⟨h8 _ (by omega), h8 _ (by omega)⟩ (hx _ (by omega)) (hx _ (by omega)), TE_of i4 (hx _ (by omega)) (hx _ (by omega)) (hx _ (by omega)) (h8 _ (by omega)) (hx _ (by omega)), ?_, ELp_of i6 (fun x _ _ => hx x (by omega)) (hx _ (by omega)), HSt_of i7 i2.1 i1.2.2.2.2.2.2.2.1 (by rw [hx 201 (by omega)]) (fun x _ _ => hx x (by omega)) (hx _ (by omega)) (by rw [hx 1 (by omega)]), fun hc => ELs_of (i8 (by rw [← h00]; exact hc)) (fun x _ _ => hx x (by omega)) (hx _ (by omega)), DRd_of i9 i1 (by rw [h00]) (by rw [hx 1 (by omega)]) (fun x _ _ => hx x (by omega)) (h8 _ (by omega)) (h8 _ (by omega)) (hx _ (by omega)) (hx _ (by omega)) (hx _ (by omega)), DRs_of i10 i1 (by rw [h00]) (by rw [hx 464 (by omega)]) (by rw [h00]) (fun x _ _ => hx x (by omega)) (hx _ (by omega)), CNT_of i11 (by rw [h00]) (fun x _ _ => hx x (by omega)) (fun x _ _ => hx x (by omega)), CNM_of i12 (h8 _ (by omega)) (fun j _ => by rw [hx 509 (by omega)]) (fun x _ _ => hx x (by omega)) (h8 _ (by omega)) (h8 _ (by omega))⟩
  unfold FLs
  rw [hx 198 (by omega), hx 201 (by omega), h00, h8 11 (by omega), h8 3 (by omega), h8 43 (by omega), h8 5 (by omega)]
  exact i5
theorem IV_thr {I : II} {sl : Nat → Nat} {t : Int} (h : IV I sl) (ht : 0 ≤ t ∧ t ≤ 2) : IV (up I 508 6 t) sl :=
  IV_of h (rg_up h.rg (by omega)) (fun x hx => up_ne hx) (fun k hk => up_nk hk)
/-- the class counts -/
theorem IV_ct {I : II} {sl : Nat → Nat} (h : IV I sl) : IV (ctM I) sl ∧ ctM I 0 10 = 1 ∧ (∀ x, 1 ≤ x → x < 94 → ctM I x = I x) ∧ ∀ x, 146 ≤ x → ctM I x = I x := by
  obtain ⟨i1, i2, i3, i4, i5, i6, i7, i8, i9, i10, i11, i12⟩ := h
  obtain ⟨k1, k2, k3, k4, k5, k6, k7, k8, k9, k10, k11, k12, k13, k14⟩ := id i1
  have hC := ct_CI k1
  have hRI := ct_RI k1 k10 k14
  have hlo : ∀ x, 1 ≤ x → x < 94 → ctM I x = I x := fun x h1 h2 => by
    unfold ctM
    split
    · rw [up_ne (by omega), run_e h2]
    · rfl
  have hhi : ∀ x, 146 ≤ x → ctM I x = I x := fun x hx => ct_h hx
  have hb : ∀ k, k ≠ 10 → ctM I 0 k = I 0 k := fun k hk => ct_b hk
  have h10 : ctM I 0 10 = 1 := by
    unfold ctM
    split
    · exact up_eq
    · omega
  have hR : RG (ctM I) := hC.2.1
  refine ⟨⟨⟨hC, by rw [hlo 1 (by omega) (by omega)]; exact k2, CI_of k3 (WfE_of k3.1 fun x _ _ => hlo x (by omega) (by omega)) hR fun x _ _ => hhi x (by omega), TI0_of k4 (hhi _ (by omega)) (hhi _ (by omega)) (hhi _ (by omega)), RI_of k5 (hhi _ (by omega)), RI_of k6 (hhi _ (by omega)), WfT_of k7 fun x _ _ => hhi x (by omega), by rw [hhi 201 (by omega)]; exact k8, fun k hk => ?_, Or.inr h10, by rw [hb 11 (by omega)]; exact k11, by rw [hb 12 (by omega)]; exact k12, by rw [hb 13 (by omega)]; exact k13, fun _ => hRI⟩, i2, TB_of i3 hR (hhi _ (by omega)) ⟨by rw [hhi 508 (by omega)], by rw [hhi 508 (by omega)]⟩ (hhi _ (by omega)) (hhi _ (by omega)), TE_of i4 (hhi _ (by omega)) (hhi _ (by omega)) (hhi _ (by omega)) (by rw [hhi 508 (by omega)]) (hhi _ (by omega)), ?_, ELp_of i6 (fun x h1 h2 => hlo x h1 (by omega)) (hhi _ (by omega)), HSt_of i7 i2.1 k8 (by rw [hhi 201 (by omega)]) (fun x _ _ => hhi x (by omega)) (hhi _ (by omega)) (by rw [hlo 1 (by omega) (by omega)]), fun hc => ELs_of (i8 (by rw [← hb 12 (by omega)]; exact hc)) (fun x _ _ => hhi x (by omega)) (hhi _ (by omega)), DRd_of i9 i1 (hb 11 (by omega)) (by rw [hlo 1 (by omega) (by omega)]) (fun x _ _ => hhi x (by omega)) (by rw [hhi 508 (by omega)]) (by rw [hhi 508 (by omega)]) (hhi _ (by omega)) (hhi _ (by omega)) (hhi _ (by omega)), DRs_of i10 i1 (hb 12 (by omega)) (by rw [hhi 464 (by omega)]) (hb 13 (by omega)) (fun x _ _ => hhi x (by omega)) (hhi _ (by omega)), fun _ => ?_, CNM_of i12 (by rw [hhi 508 (by omega)]) (fun j _ => by rw [hhi 509 (by omega)]) (fun x _ _ => hhi x (by omega)) (by rw [hhi 508 (by omega)]) (by rw [hhi 508 (by omega)])⟩, h10, hlo, hhi⟩
  · rw [hhi 201 (by omega)] at hk
    have := i2.1 k (by omega)
    exact WfT_of (k9 k hk) fun x _ _ => hhi x (by omega)
  · unfold FLs
    rw [hhi 198 (by omega), hhi 201 (by omega), hb 11 (by omega), hb 12 (by omega), hhi 508 (by omega)]
    exact i5
  · by_cases h0 : I 0 10 = 0
    · refine ⟨I, k1, fun x h1 h2 => (hlo x h1 (by omega)).symm, fun x h1 h2 => ?_⟩
      unfold ctM
      rw [if_pos h0, up_ne (by omega)]
    · have he : ctM I = I := by unfold ctM; rw [if_neg h0]
      rw [he]
      exact i11 (by omega)
/-- the model counts -/
theorem IV_kn {I : II} {sl : Nat → Nat} (h : IV I sl) : ∃ K, knO I = some K ∧ IV K sl ∧ K 508 14 = 1 ∧ (∀ x, x < 515 → x ≠ 508 → K x = I x) ∧ (∀ x, 537 ≤ x → K x = I x) ∧ ∀ k, k ≠ 14 → k ≠ 15 → k ≠ 32 → k ≠ 39 → k ≠ 40 → k ≠ 41 → k ≠ 42 → K 508 k = I 508 k := by
  obtain ⟨i1, i2, i3, i4, i5, i6, i7, i8, i9, i10, i11, i12⟩ := id h
  by_cases h0 : I 508 14 = 0
  · obtain ⟨n, hn, hE⟩ := i6
    obtain ⟨K0, hK0, _, hK9⟩ := cnt_sim (c := 94) hE i1.1 i3.1 (by omega)
    have hMI := cnO_MI hK0 i3.1
    have hs : ∀ x, x ≤ 507 ∨ (509 ≤ x ∧ x ≤ 514) ∨ 537 ≤ x → K0 x = I x := fun x hx => cnO_s hx hK0
    have h8 : ∀ k, k ≠ 15 → k ≠ 32 → k ≠ 39 → k ≠ 40 → k ≠ 41 → k ≠ 42 → K0 508 k = I 508 k := fun k a1 a2 a3 a4 a5 a6 => cnO_8 a1 a2 a3 a4 a5 a6 hK0
    have hup : ∀ x, x ≠ 508 → up K0 508 14 1 x = K0 x := fun x hx => up_ne hx
    have hR : RG (up K0 508 14 1) := rg_up hMI.2 (by omega)
    have hx : ∀ x, x ≤ 507 ∨ (509 ≤ x ∧ x ≤ 514) ∨ 537 ≤ x → up K0 508 14 1 x = I x := fun x hx => (hup x (by omega)).trans (hs x hx)
    have hf : ∀ k, k ≠ 14 → k ≠ 15 → k ≠ 32 → k ≠ 39 → k ≠ 40 → k ≠ 41 → k ≠ 42 → up K0 508 14 1 508 k = I 508 k := fun k a0 a1 a2 a3 a4 a5 a6 => (up_nk a0).trans (h8 k a1 a2 a3 a4 a5 a6)
    have h00 : up K0 508 14 1 0 = I 0 := hx 0 (by omega)
    refine ⟨up K0 508 14 1, by unfold knO; rw [if_pos h0, hK0]; rfl, ⟨KC_of i1 i2.1 hR (fun x _ _ => hx x (by omega)) (fun k _ _ => by rw [h00]), i2, TB_of i3 hR (hx _ (by omega)) ⟨hf _ (by omega) (by omega) (by omega) (by omega) (by omega) (by omega) (by omega), hf _ (by omega) (by omega) (by omega) (by omega) (by omega) (by omega) (by omega)⟩ (hx _ (by omega)) (hx _ (by omega)), TE_of i4 (hx _ (by omega)) (hx _ (by omega)) (hx _ (by omega)) (hf _ (by omega) (by omega) (by omega) (by omega) (by omega) (by omega) (by omega)) (hx _ (by omega)), ?_, ELp_of ⟨n, hn, hE⟩ (fun x _ _ => hx x (by omega)) (hx _ (by omega)), HSt_of i7 i2.1 i1.2.2.2.2.2.2.2.1 (by rw [hx 201 (by omega)]) (fun x _ _ => hx x (by omega)) (hx _ (by omega)) (by rw [hx 1 (by omega)]), fun hc => ELs_of (i8 (by rw [← h00]; exact hc)) (fun x _ _ => hx x (by omega)) (hx _ (by omega)), DRd_of i9 i1 (by rw [h00]) (by rw [hx 1 (by omega)]) (fun x _ _ => hx x (by omega)) (hf _ (by omega) (by omega) (by omega) (by omega) (by omega) (by omega) (by omega)) (hf _ (by omega) (by omega) (by omega) (by omega) (by omega) (by omega) (by omega)) (hx _ (by omega)) (hx _ (by omega)) (hx _ (by omega)), DRs_of i10 i1 (by rw [h00]) (by rw [hx 464 (by omega)]) (by rw [h00]) (fun x _ _ => hx x (by omega)) (hx _ (by omega)), CNT_of i11 (by rw [h00]) (fun x _ _ => hx x (by omega)) (fun x _ _ => hx x (by omega)), Or.inr up_eq, fun _ => ⟨I, K0, i3.1, (fun j _ => by rw [hx 509 (by omega)]), hK0, fun x _ _ => hup x (by omega), up_nk (by omega), up_nk (by omega)⟩⟩, up_eq, fun x a b => hx x (by omega), fun x a => hx x (by omega), hf⟩
    unfold FLs
    rw [hx 198 (by omega), hx 201 (by omega), h00, hf 11 (by omega) (by omega) (by omega) (by omega) (by omega) (by omega) (by omega), hf 3 (by omega) (by omega) (by omega) (by omega) (by omega) (by omega) (by omega), hf 43 (by omega) (by omega) (by omega) (by omega) (by omega) (by omega) (by omega), hf 5 (by omega) (by omega) (by omega) (by omega) (by omega) (by omega) (by omega)]
    exact i5
  · exact ⟨I, by unfold knO; rw [if_neg h0], h, i12.1.resolve_left h0, fun _ _ _ => rfl, fun _ _ => rfl, fun _ _ _ _ _ _ _ _ => rfl⟩
def QV (J : II) : Prop := CI J 94 1 ∧ MI J ∧ ELp J ∧ CNT J ∧ CNM J
theorem IV.qv {I : II} {sl : Nat → Nat} (h : IV I sl) : QV I := ⟨h.1.1, h.2.2.1.1, h.2.2.2.2.2.1, h.2.2.2.2.2.2.2.2.2.2.1, h.2.2.2.2.2.2.2.2.2.2.2⟩
theorem QV_kn {I : II} (h : QV I) : ∃ K, knO I = some K ∧ QV K ∧ K 508 14 = 1 ∧ (∀ x, x < 515 → x ≠ 508 → K x = I x) ∧ (∀ x, 537 ≤ x → K x = I x) ∧ ∀ k, k ≠ 14 → k ≠ 15 → k ≠ 32 → k ≠ 39 → k ≠ 40 → k ≠ 41 → k ≠ 42 → K 508 k = I 508 k := by
  obtain ⟨i1, i3, i6, i11, i12⟩ := id h
  by_cases h0 : I 508 14 = 0
  · obtain ⟨n, hn, hE⟩ := i6
    obtain ⟨K0, hK0, _, hK9⟩ := cnt_sim (c := 94) hE i1 i3 (by omega)
    have hMI := cnO_MI hK0 i3
    have hs : ∀ x, x ≤ 507 ∨ (509 ≤ x ∧ x ≤ 514) ∨ 537 ≤ x → K0 x = I x := fun x hx => cnO_s hx hK0
    have hup : ∀ x, x ≠ 508 → up K0 508 14 1 x = K0 x := fun x hx => up_ne hx
    have hR : RG (up K0 508 14 1) := rg_up hMI.2 (by omega)
    have hx : ∀ x, x ≤ 507 ∨ (509 ≤ x ∧ x ≤ 514) ∨ 537 ≤ x → up K0 508 14 1 x = I x := fun x hx => (hup x (by omega)).trans (hs x hx)
    have h00 : up K0 508 14 1 0 = I 0 := hx 0 (by omega)
    refine ⟨up K0 508 14 1, by unfold knO; rw [if_pos h0, hK0]; rfl, ⟨CI_of i1 (WfE_of i1.1 fun x _ _ => hx x (by omega)) hR fun x _ _ => hx x (by omega), MI_up hMI (by omega) (by omega), ELp_of ⟨n, hn, hE⟩ (fun x _ _ => hx x (by omega)) (hx _ (by omega)), CNT_of i11 (by rw [h00]) (fun x _ _ => hx x (by omega)) (fun x _ _ => hx x (by omega)), Or.inr up_eq, fun _ => ⟨I, K0, i3, (fun j _ => by rw [hx 509 (by omega)]), hK0, fun x _ _ => hup x (by omega), up_nk (by omega), up_nk (by omega)⟩⟩, up_eq, fun x a b => hx x (by omega), fun x a => hx x (by omega), fun k a0 a1 a2 a3 a4 a5 a6 => (up_nk a0).trans (cnO_8 a1 a2 a3 a4 a5 a6 hK0)⟩
  · exact ⟨I, by unfold knO; rw [if_neg h0], h, i12.1.resolve_left h0, fun _ _ _ => rfl, fun _ _ => rfl, fun _ _ _ _ _ _ _ _ => rfl⟩
/-- both have counted: what they hold is the same -/
def RSS (K : II) (n w R : Nat) : Prop := 1 ≤ R ∧ R ≤ 9 ∧ w ≤ 8 ∧ K 95 0 = (R : Int) ∧ K 508 15 = (R : Int) ∧ K 95 1 = (w : Int) ∧ K 508 32 = (w : Int) ∧ K 1 4 = (n : Int) ∧ K 509 1 = (n : Int) ∧ (∀ a k b j, PRc 94 n w R a k b j → b ≠ 508 → K a k = K b j) ∧ (∀ k : Nat, k < w → 0 ≤ K 530 k ∧ K 530 k < 8 ∧ K 525 (K 530 k).toNat = 1 ∧ K 527 (K 530 k).toNat = (k : Int)) ∧ (∀ q : Nat, q < 8 → (¬ K 525 q = 1 → K 527 q = -1) ∧ (K 525 q = 1 → 0 ≤ K 527 q ∧ K 527 q < (w : Int) ∧ K 530 (K 527 q).toNat = (q : Int))) ∧ (∀ q : Nat, q < 8 → 0 ≤ K 525 q ∧ K 525 q ≤ 3 ∧ (K 509 0 ≤ (q : Int) → K 525 q = 3)) ∧ ∀ i q : Nat, i < R → q < 8 → K 509 0 ≤ (q : Int) → K 515 (8 * i + q) = 0
theorem QV_rss {K : II} (h : QV K) (h1 : K 0 10 = 1) (h2 : K 508 14 = 1) : ∃ n w R, RSS K n w R := by
  obtain ⟨i1, i3, ⟨n, hn, hE⟩, i11, i12⟩ := h
  obtain ⟨A, hA1, hA2, hA3⟩ := i11 h1
  obtain ⟨B, K0, hB1, hB2, hB3, hB4, hB5, hB6⟩ := i12.2 h2
  have hEA : EL A 1 B n n := EL_265 hE i3.1 (fun x a b => hA2 x a (by omega)) hB2
  obtain ⟨K1, hK1, hres, hK9⟩ := cnt_sim (c := 94) hEA hA1 hB1 (by omega)
  rw [hB3] at hK1
  cases hK1
  obtain ⟨w, R, hR1, hR9, hRR, hr0, hr15⟩ := hres
  obtain ⟨e1, hEQ, e3, e4, e5, hVA, e7, e8, hRK, hpw⟩ := hRR
  have hq32 : runM A 94 1 95 1 = K0 508 32 := hEQ 95 1 508 32 pr_ec
  have h95 : K 95 = runM A 94 1 95 := hA3 95 (by omega) (by omega)
  have hx : ∀ x, 515 ≤ x → x ≤ 536 → K x = K0 x := hB4
  refine ⟨n, w, R, hR1, hR9, by omega, by rw [h95]; exact hr0, hB5.trans hr15, by rw [h95, hq32]; exact hRK.1, hB6.trans hRK.1, hE.1.2.2.1, hE.1.2.2.2.1, fun a k b j hp hb => ?_, ?_, ?_, ?_, ?_⟩
  · have h3 := hEQ a k b j hp
    have hr : (94 ≤ a ∧ a < 146) ∧ 515 ≤ b ∧ b ≤ 536 := by
      unfold PRc at hp
      omega
    rw [hA3 a hr.1.1 hr.1.2, hx b hr.2.1 hr.2.2]
    exact h3
  · rw [hx 530 (by omega) (by omega), hx 525 (by omega) (by omega), hx 527 (by omega) (by omega)]
    exact hRK.2.1
  · rw [hx 530 (by omega) (by omega), hx 525 (by omega) (by omega), hx 527 (by omega) (by omega)]
    exact hRK.2.2
  · intro q hq
    have h3 := hVA.2.2.1 q hq
    rw [hx 525 (by omega) (by omega), ← hB2 0 (by omega), ← hK9]
    exact ⟨h3.1.1, h3.1.2, h3.2.1⟩
  · obtain ⟨R2, hR2, hr2⟩ := nz_cnO hB1.1 hB3
    have : R2 = R := by omega
    subst this
    intro i q hi hq hn
    rw [hx 515 (by omega) (by omega)]
    refine hR2.2.2 i q hi hq ?_
    rw [hK9, hB2 0 (by omega)]
    exact hn
