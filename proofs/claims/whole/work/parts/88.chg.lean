/-! CALLS that change: what must be shown of a new election, of a new text; begin, append, save -/
def TXp (F : II) : Prop := TE F F ∧ F 198 5 = F 508 11 ∧ (0 ≤ F 508 8 ∧ F 508 8 ≤ 60) ∧ (∀ k, k < 60 → 0 ≤ F 513 k ∧ F 513 k ≤ 126) ∧ (∀ k, k < 8 → 0 ≤ F 514 k ∧ F 514 k < 8) ∧ 0 ≤ F 508 13 ∧ F 508 13 ≤ 8
theorem TXp_of {I F : II} {sl : Nat → Nat} (h : IV I sl) (h1 : F 198 = I 198) (h2 : F 199 = I 199) (h3 : F 200 = I 200) (h8 : F 508 8 = I 508 8) (h13 : F 513 = I 513) (h14 : F 514 = I 514) (h11 : F 508 11 = I 508 11) (h83 : F 508 13 = I 508 13) : TXp F := by
  obtain ⟨i1, i2, i3, i4, i5, i6, i7, i8, i9, i10, i11, i12⟩ := h
  obtain ⟨b1, b2, b3, b4, b5, b6⟩ := i3
  exact ⟨TE_of i4 h1 h2 h3 h8 h13, by rw [h1, h11]; exact i5.1, by rw [h8]; exact b2, by rw [h13]; exact b3, by rw [h14]; exact b4, by rw [h83]; exact b5⟩
/-- another election: nothing is counted -/
theorem IV_chg {I F : II} {sl sl2 : Nat → Nat} (h : IV I sl) (hSD : SlD sl2) (hR : RG F) (hW : WfT F 1) (hM : WfM F) (hE : ELp F) (h10 : F 0 10 = 0) (h14 : F 508 14 = 0) (hh : 0 ≤ F 201 1 ∧ F 201 1 ≤ 8) (h3 : F 201 1 = F 508 3) (hsl : ∀ k : Nat, (k : Int) < F 201 1 → WfT F (sl2 k)) (hHS : HSt F sl2)
    (hx : ∀ x, 63 ≤ x → x < 198 → F x = I x) (h012 : F 0 12 = I 0 12) (h013 : F 0 13 = I 0 13) (hd1 : F 0 11 = 0 ∨ F 0 11 = 1) (hd2 : F 0 11 = F 508 43) (hd3 : RI F 451) (hd4 : DRd F) (hs : ∀ x, 464 ≤ x → x < 508 → F x = I x) (h5 : F 508 5 = I 508 5) (h512 : F 512 = I 512) (h540 : F 540 = I 540) (hT : TXp F) : IV F sl2 := by
  obtain ⟨i1, i2, i3, i4, i5, i6, i7, i8, i9, i10, i11, i12⟩ := h
  obtain ⟨k1, k2, k3, k4, k5, k6, k7, k8, k9, k10, k11, k12, k13, k14⟩ := id i1
  obtain ⟨t1, t2, t3, t4, t5, t6⟩ := hT
  obtain ⟨m, hm, hE1⟩ := id hE
  refine ⟨⟨CI_of k1 hW.1 hR fun x _ _ => hx x (by omega) (by omega), hW.2, CI_of k3 (WfE_of k3.1 fun x _ _ => hx x (by omega) (by omega)) hR fun x _ _ => hx x (by omega) (by omega), t1.1, hd3, RI_of k6 (hs _ (by omega) (by omega)), WfT_of k7 fun x _ _ => hs x (by omega) (by omega), hh, hsl, Or.inl h10, hd1, by rw [h012]; exact k12, by rw [h013]; exact k13, fun hc => by omega⟩, hSD, ⟨⟨hM, hR⟩, t3, t4, t5, t6, ?_⟩, t1, ⟨t2, h3, hd2, by rw [h012, h5]; exact i5.2.2.2⟩, hE, hHS, fun hc => ELs_of (i8 (by rw [← h012]; exact hc)) (fun x _ _ => hs x (by omega) (by omega)) h512, hd4, DRs_of i10 i1 h012 (by rw [hs 464 (by omega) (by omega)]) h013 (fun x _ _ => hs x (by omega) (by omega)) h540, fun hc => by omega, Or.inl h14, fun hc => by omega⟩
  rw [hE1.1.2.2.2.1]
  omega
/-- another text -/
theorem IV_txt {I F : II} {sl : Nat → Nat} (h : IV I sl) (hR : RG F) (hx : ∀ x, (x < 32 ∨ 63 ≤ x) → x ≠ 198 → x ≠ 199 → x ≠ 200 → x < 508 ∨ x = 511 ∨ x = 512 ∨ 515 ≤ x → F x = I x) (h9 : ∀ j, j < 265 → F 509 j = I 509 j) (h8 : ∀ k, k ≠ 6 → k ≠ 8 → k ≠ 9 → k ≠ 10 → k ≠ 11 → k ≠ 13 → F 508 k = I 508 k) (hT : TXp F) : IV F sl := by
  obtain ⟨i1, i2, i3, i4, i5, i6, i7, i8, i9, i10, i11, i12⟩ := h
  obtain ⟨k1, k2, k3, k4, k5, k6, k7, k8, k9, k10, k11, k12, k13, k14⟩ := id i1
  obtain ⟨t1, t2, t3, t4, t5, t6⟩ := hT
  obtain ⟨m, hm, hE1⟩ := id i6
  have h00 : F 0 = I 0 := hx 0 (by omega) (by omega) (by omega) (by omega) (by omega)
  have hW : WfM F := WfM_265 i3.1.1 h9
  have hE : EL F 1 F m m := EL_265 hE1 i3.1.1 (fun x _ _ => hx x (by omega) (by omega) (by omega) (by omega) (by omega)) h9
  refine ⟨⟨CI_of k1 (WfE_of k1.1 fun x _ _ => hx x (by omega) (by omega) (by omega) (by omega) (by omega)) hR fun x _ _ => hx x (by omega) (by omega) (by omega) (by omega) (by omega), by rw [hx 1 (by omega) (by omega) (by omega) (by omega) (by omega)]; exact k2, CI_of k3 (WfE_of k3.1 fun x _ _ => hx x (by omega) (by omega) (by omega) (by omega) (by omega)) hR fun x _ _ => hx x (by omega) (by omega) (by omega) (by omega) (by omega), t1.1, RI_of k5 (hx _ (by omega) (by omega) (by omega) (by omega) (by omega)), RI_of k6 (hx _ (by omega) (by omega) (by omega) (by omega) (by omega)), WfT_of k7 fun x _ _ => hx x (by omega) (by omega) (by omega) (by omega) (by omega), by rw [hx 201 (by omega) (by omega) (by omega) (by omega) (by omega)]; exact k8, fun k hk => ?_, by rw [h00]; exact k10, by rw [h00]; exact k11, by rw [h00]; exact k12, by rw [h00]; exact k13, fun hc => RI_of (k14 (by rw [← h00]; exact hc)) (hx _ (by omega) (by omega) (by omega) (by omega) (by omega))⟩, i2, ⟨⟨hW, hR⟩, t3, t4, t5, t6, by rw [hE.1.2.2.2.1]; omega⟩, t1, ⟨t2, by rw [hx 201 (by omega) (by omega) (by omega) (by omega) (by omega), h8 3 (by omega) (by omega) (by omega) (by omega) (by omega) (by omega)]; exact i5.2.1, by rw [h00, h8 43 (by omega) (by omega) (by omega) (by omega) (by omega) (by omega)]; exact i5.2.2.1, by rw [h00, h8 5 (by omega) (by omega) (by omega) (by omega) (by omega) (by omega)]; exact i5.2.2.2⟩, ⟨m, hm, hE⟩, HSt_of i7 i2.1 k8 (by rw [hx 201 (by omega) (by omega) (by omega) (by omega) (by omega)]) (fun x _ _ => hx x (by omega) (by omega) (by omega) (by omega) (by omega)) (hx _ (by omega) (by omega) (by omega) (by omega) (by omega)) (by rw [hx 1 (by omega) (by omega) (by omega) (by omega) (by omega)]), fun hc => ELs_of (i8 (by rw [← h00]; exact hc)) (fun x _ _ => hx x (by omega) (by omega) (by omega) (by omega) (by omega)) (hx _ (by omega) (by omega) (by omega) (by omega) (by omega)), DRd_of i9 i1 (by rw [h00]) (by rw [hx 1 (by omega) (by omega) (by omega) (by omega) (by omega)]) (fun x _ _ => hx x (by omega) (by omega) (by omega) (by omega) (by omega)) (h8 44 (by omega) (by omega) (by omega) (by omega) (by omega) (by omega)) (h8 45 (by omega) (by omega) (by omega) (by omega) (by omega) (by omega)) (hx _ (by omega) (by omega) (by omega) (by omega) (by omega)) (hx _ (by omega) (by omega) (by omega) (by omega) (by omega)) (hx _ (by omega) (by omega) (by omega) (by omega) (by omega)), DRs_of i10 i1 (by rw [h00]) (by rw [hx 464 (by omega) (by omega) (by omega) (by omega) (by omega)]) (by rw [h00]) (fun x _ _ => hx x (by omega) (by omega) (by omega) (by omega) (by omega)) (hx _ (by omega) (by omega) (by omega) (by omega) (by omega)), CNT_of i11 (by rw [h00]) (fun x _ _ => hx x (by omega) (by omega) (by omega) (by omega) (by omega)) (fun x _ _ => hx x (by omega) (by omega) (by omega) (by omega) (by omega)), CNM_of i12 (h8 14 (by omega) (by omega) (by omega) (by omega) (by omega) (by omega)) h9 (fun x _ _ => hx x (by omega) (by omega) (by omega) (by omega) (by omega)) (h8 15 (by omega) (by omega) (by omega) (by omega) (by omega) (by omega)) (h8 32 (by omega) (by omega) (by omega) (by omega) (by omega) (by omega))⟩
  rw [hx 201 (by omega) (by omega) (by omega) (by omega) (by omega)] at hk
  have := i2.1 k (by omega)
  exact WfT_of (k9 k hk) fun x _ _ => hx x (by omega) (by omega) (by omega) (by omega) (by omega)
/-! begin -/
theorem startM_v {I : II} {e : Nat} {nc ns : Int} : startM I e nc ns e 0 = nc ∧ startM I e nc ns e 2 = 0 ∧ startM I e nc ns e 4 = 0 ∧ (∀ k, k < 8 → startM I e nc ns (e + 2) k = (k : Int)) ∧ (∀ k, k < 3 → startM I e nc ns (e + 1) k = I (e + 1) k) ∧ startM I e nc ns (e + 1) 3 = ns ∧ ∀ x, e + 3 ≤ x → startM I e nc ns x = I x := by
  have L : ∀ k : Nat, ∀ K : II, (∀ x, x ≠ e + 2 → foldUp (fun k J => up J (e + 2) k (k : Int)) K k x = K x) ∧ ∀ j, j < k → foldUp (fun k J => up J (e + 2) k (k : Int)) K k (e + 2) j = (j : Int) := by
    intro k K
    induction k with
    | zero => exact ⟨fun _ _ => rfl, fun j hj => by omega⟩
    | succ k ih =>
      refine ⟨fun x hx => (up_ne hx).trans (ih.1 x hx), fun j hj => ?_⟩
      show up _ (e + 2) k (k : Int) (e + 2) j = _
      by_cases hjk : j = k
      · subst hjk; exact up_eq
      · rw [up_nk hjk]; exact ih.2 j (by omega)
  unfold startM
  obtain ⟨L1, L2⟩ := L 8 (up (up (up (up I e 0 nc) (e + 1) 3 ns) e 2 0) e 4 0)
  refine ⟨?_, ?_, ?_, fun k hk => L2 k hk, fun k hk => ?_, ?_, fun x hx => ?_⟩
  · rw [L1 e (by omega), up_nk (by omega), up_nk (by omega), up_ne (by omega), up_eq]
  · rw [L1 e (by omega), up_nk (by omega), up_eq]
  · rw [L1 e (by omega), up_eq]
  · rw [L1 _ (by omega), up_ne (by omega), up_ne (by omega), up_nk (by omega), up_ne (by omega)]
  · rw [L1 _ (by omega), up_ne (by omega), up_ne (by omega), up_eq]
  · by_cases h2 : x = e + 2
    · omega
    · rw [L1 _ h2, up_ne (by omega), up_ne (by omega), up_ne (by omega), up_ne (by omega)]
theorem WfE_startM {I : II} {e : Nat} {a b : Int} (h : WfE I e) (ha : 2 ≤ a ∧ a ≤ 8) (hb : 1 ≤ b ∧ b ≤ 7) : WfE (startM I e a b) e := by
  obtain ⟨v0, v1, v2, v3, v4, v5, v6⟩ := startM_v (I := I) (e := e) (nc := a) (ns := b)
  obtain ⟨w0, w1, w2, w3, w4, w5, w6, w7, w8, w9, w10, w11, w12, w13⟩ := h
  unfold WfE
  rw [v0, v1, v2, v4 0 (by omega), v4 1 (by omega), v4 2 (by omega), v5]
  refine ⟨ha.1, ha.2, by omega, by omega, by omega, by omega, fun p hp => by rw [v6 _ (by omega)]; exact w6 p hp, fun p hp => by rw [v6 _ (by omega)]; exact w7 p hp, fun p k hp hk => by rw [v6 _ (by omega)]; exact w8 p k hp hk, fun k hk => by rw [v3 k hk]; omega, w10, w11, w12, hb⟩
theorem stM_v {J : II} {a : Int} : (∀ x, x ≠ 508 → x ≠ 509 → stM J a x = J x) ∧ (∀ k, k ≠ 3 → k ≠ 43 → k ≠ 14 → stM J a 508 k = J 508 k) ∧ stM J a 508 3 = 0 ∧ stM J a 508 43 = 0 ∧ stM J a 508 14 = 0 ∧ stM J a 509 0 = a ∧ stM J a 509 1 = 0 ∧ stM J a 509 2 = 0 ∧ (∀ k, k < 8 → stM J a 509 (7 + k) = (k : Int)) ∧ ∀ j, (3 ≤ j ∧ j < 7) ∨ 15 ≤ j → stM J a 509 j = J 509 j := by
  have L : ∀ k : Nat, ∀ K : II, (∀ x, x ≠ 509 → foldUp (fun k K => up K 509 (7 + k) (k : Int)) K k x = K x) ∧ (∀ j, j < 7 ∨ 7 + k ≤ j → foldUp (fun k K => up K 509 (7 + k) (k : Int)) K k 509 j = K 509 j) ∧ ∀ j, j < k → foldUp (fun k K => up K 509 (7 + k) (k : Int)) K k 509 (7 + j) = (j : Int) := by
    intro k K
    induction k with
    | zero => exact ⟨fun _ _ => rfl, fun _ _ => rfl, fun j hj => by omega⟩
    | succ k ih =>
      refine ⟨fun x hx => (up_ne hx).trans (ih.1 x hx), fun j hj => ?_, fun j hj => ?_⟩
      · show up _ 509 (7 + k) (k : Int) 509 j = _
        rw [up_nk (by omega)]; exact ih.2.1 j (by omega)
      · show up _ 509 (7 + k) (k : Int) 509 (7 + j) = _
        by_cases hjk : j = k
        · subst hjk; exact up_eq
        · rw [up_nk (by omega)]; exact ih.2.2 j (by omega)
  obtain ⟨L1, L2, L3⟩ := L 8 (up (up (up J 509 0 a) 509 1 0) 509 2 0)
  unfold stM
  refine ⟨fun x h1 h2 => ?_, fun k h1 h2 h3 => ?_, ?_, ?_, ?_, ?_, ?_, ?_, fun k hk => ?_, fun j hj => ?_⟩
  · rw [up_ne h1, up_ne h1, up_ne h1, L1 x h2, up_ne h2, up_ne h2, up_ne h2]
  · rw [up_nk h3, up_nk h2, up_nk h1, L1 508 (by omega), up_ne (by omega), up_ne (by omega), up_ne (by omega)]
  · rw [up_nk (by omega), up_nk (by omega), up_eq]
  · rw [up_nk (by omega), up_eq]
  · exact up_eq
  · rw [up_ne (by omega), up_ne (by omega), up_ne (by omega), L2 0 (by omega), up_nk (by omega), up_nk (by omega), up_eq]
  · rw [up_ne (by omega), up_ne (by omega), up_ne (by omega), L2 1 (by omega), up_nk (by omega), up_eq]
  · rw [up_ne (by omega), up_ne (by omega), up_ne (by omega), L2 2 (by omega), up_eq]
  · rw [up_ne (by omega), up_ne (by omega), up_ne (by omega), L3 k hk]
  · rw [up_ne (by omega), up_ne (by omega), up_ne (by omega), L2 j (by omega), up_nk (by omega), up_nk (by omega), up_nk (by omega)]
theorem rg_fold2 {f : Nat → II → II} {I : II} {n : Nat} (h : RG I) (hf : ∀ k J, k < n → RG J → RG (f k J)) : RG (foldUp f I n) := by
  have : ∀ m, m ≤ n → RG (foldUp f I m) := by
    intro m
    induction m with
    | zero => intro _; exact h
    | succ m ih => intro hm; exact hf m _ (by omega) (ih (by omega))
  exact this n (Nat.le_refl n)
theorem rg_startM {I : II} {e : Nat} {a b : Int} (h : RG I) (ha : -2147483648 ≤ a ∧ a < 2147483648) (hb : -2147483648 ≤ b ∧ b < 2147483648) : RG (startM I e a b) :=
  rg_fold2 (rg_up (rg_up (rg_up (rg_up h ha) hb) (by omega)) (by omega)) fun k J hk hJ => rg_up hJ (by omega)
theorem rg_stM {I : II} {a : Int} (h : RG I) (ha : -2147483648 ≤ a ∧ a < 2147483648) : RG (stM I a) :=
  rg_up (rg_up (rg_up (rg_fold2 (rg_up (rg_up (rg_up h ha) (by omega)) (by omega)) fun k J hk hJ => rg_up hJ (by omega)) (by omega)) (by omega)) (by omega)
theorem s_begin {I : II} {sl : Nat → Nat} {a b : Int} (h : IV I sl) : MI (bgR I a b).2 ∧ IV (bgM (bgR I a b).2 a b).2 sl ∧ OK1 IAE (bgR I a b) (bgM (bgR I a b).2 a b).1 (bgM (bgR I a b).2 a b).2 := by
  obtain ⟨m, hm, hE⟩ := id h.2.2.2.2.2.1
  by_cases c : (2 ≤ a ∧ a ≤ 8) ∧ 1 ≤ b ∧ b ≤ 7
  · have e : bgR I a b = okI (I 1 0) (up (up (up (startM I 1 a b) 0 10 0) 0 11 0) 201 1 0) := by unfold bgR; rw [if_neg (by omega), if_neg (by omega)]
    have g1 : inF a 2 8 = 1 := if_pos c.1
    have g2 : inF b 1 7 = 1 := if_pos c.2
    have ht : tBg a b = 0 := if_neg (by omega)
    rw [e]
    show MI (up (up (up (startM I 1 a b) 0 10 0) 0 11 0) 201 1 0) ∧ IV (bgM (up (up (up (startM I 1 a b) 0 10 0) 0 11 0) 201 1 0) a b).2 sl ∧ OK1 IAE (okI (I 1 0) (up (up (up (startM I 1 a b) 0 10 0) 0 11 0) 201 1 0)) (bgM (up (up (up (startM I 1 a b) 0 10 0) 0 11 0) 201 1 0) a b).1 (bgM (up (up (up (startM I 1 a b) 0 10 0) 0 11 0) 201 1 0) a b).2
    have hJ : ∀ x, x ≠ 0 → x ≠ 201 → up (up (up (startM I 1 a b) 0 10 0) 0 11 0) 201 1 0 x = startM I 1 a b x := fun x h0 h1 => by rw [up_ne h1, up_ne h0, up_ne h0]
    have hJ2 : ∀ x, x ≠ 0 → x ≠ 201 → x < 1 ∨ 32 ≤ x → up (up (up (startM I 1 a b) 0 10 0) 0 11 0) 201 1 0 x = I x := fun x h0 h1 h2 => by rw [hJ x h0 h1, startM_e (by omega)]
    have hJ01 : up (up (up (startM I 1 a b) 0 10 0) 0 11 0) 201 1 0 0 10 = 0 := by rw [up_ne (by omega), up_nk (by omega), up_eq]
    have hJ02 : up (up (up (startM I 1 a b) 0 10 0) 0 11 0) 201 1 0 0 11 = 0 := by rw [up_ne (by omega), up_eq]
    have hJ0 : ∀ k, k ≠ 10 → k ≠ 11 → up (up (up (startM I 1 a b) 0 10 0) 0 11 0) 201 1 0 0 k = I 0 k := fun k h0 h1 => by rw [up_ne (by omega), up_nk h1, up_nk h0, startM_e (by omega)]
    have hJ21 : up (up (up (startM I 1 a b) 0 10 0) 0 11 0) 201 1 0 201 1 = 0 := up_eq
    have hJR : RG (up (up (up (startM I 1 a b) 0 10 0) 0 11 0) 201 1 0) := rg_up (rg_up (rg_up (rg_startM h.rg (by omega) (by omega)) (by omega)) (by omega)) (by omega)
    generalize up (up (up (startM I 1 a b) 0 10 0) 0 11 0) 201 1 0 = J at *
    have hMJ : MI J := ⟨WfM_of h.mi.1 (hJ2 509 (by omega) (by omega) (by omega)), hJR⟩
    unfold bgM
    rw [ht, if_pos rfl]
    refine ⟨hMJ, ?_, ?_⟩
    · show IV (up (stM (up J 508 6 0) a) 509 6 b) sl
      obtain ⟨s1, s2, s3, s4, s5, s6, s7, s8, s9, s10⟩ := stM_v (J := up J 508 6 0) (a := a)
      obtain ⟨v0, v1, v2, v3, v4, v5, v6⟩ := startM_v (I := I) (e := 1) (nc := a) (ns := b)
      have F : ∀ x, x ≠ 508 → x ≠ 509 → up (stM (up J 508 6 0) a) 509 6 b x = J x := fun x h0 h1 => by rw [up_ne h1, s1 x h0 h1, up_ne h0]
      have F8 : ∀ k, k ≠ 3 → k ≠ 43 → k ≠ 14 → k ≠ 6 → up (stM (up J 508 6 0) a) 509 6 b 508 k = I 508 k := fun k h0 h1 h2 h3 => by rw [up_ne (by omega), s2 k h0 h1 h2, up_nk h3, hJ2 508 (by omega) (by omega) (by omega)]
      have F9 : ∀ j, j ≠ 6 → up (stM (up J 508 6 0) a) 509 6 b 509 j = stM (up J 508 6 0) a 509 j := fun j hj => up_nk hj
      have F96 : up (stM (up J 508 6 0) a) 509 6 b 509 6 = b := up_eq
      have F83 : up (stM (up J 508 6 0) a) 509 6 b 508 3 = 0 := by rw [up_ne (by omega), s3]
      have F84 : up (stM (up J 508 6 0) a) 509 6 b 508 43 = 0 := by rw [up_ne (by omega), s4]
      have F814 : up (stM (up J 508 6 0) a) 509 6 b 508 14 = 0 := by rw [up_ne (by omega), s5]
      have FR : RG (up (stM (up J 508 6 0) a) 509 6 b) := rg_up (rg_stM (rg_up hJR (by omega)) (by omega)) (by omega)
      have F10 : ∀ j, (3 ≤ j ∧ j < 6) ∨ 15 ≤ j → up (stM (up J 508 6 0) a) 509 6 b 509 j = I 509 j := fun j hj => by rw [F9 j (by omega), s10 j (by omega), up_ne (by omega), hJ2 509 (by omega) (by omega) (by omega)]
      have F90 : up (stM (up J 508 6 0) a) 509 6 b 509 0 = a := by rw [F9 0 (by omega), s6]
      have F91 : up (stM (up J 508 6 0) a) 509 6 b 509 1 = 0 := by rw [F9 1 (by omega), s7]
      have F92 : up (stM (up J 508 6 0) a) 509 6 b 509 2 = 0 := by rw [F9 2 (by omega), s8]
      have F97 : ∀ k, k < 8 → up (stM (up J 508 6 0) a) 509 6 b 509 (7 + k) = (k : Int) := fun k hk => by rw [F9 _ (by omega), s9 k hk]
      have hW1 : WfE (up (stM (up J 508 6 0) a) 509 6 b) 1 := WfE_of (WfE_startM h.1.1.1 c.1 c.2) fun x _ _ => by rw [F x (by omega) (by omega), hJ x (by omega) (by omega)]
      generalize up (stM (up J 508 6 0) a) 509 6 b = G at *
      have G1 : ∀ x, 1 ≤ x → x < 32 → G x = startM I 1 a b x := fun x _ _ => by rw [F x (by omega) (by omega), hJ x (by omega) (by omega)]
      have GX : ∀ x, x ≠ 0 → x ≠ 201 → 32 ≤ x → x ≠ 508 → x ≠ 509 → G x = I x := fun x h0 h1 h2 h3 h4 => by rw [F x h3 h4, hJ2 x h0 h1 (by omega)]
      have G0 : ∀ k, k ≠ 10 → k ≠ 11 → G 0 k = I 0 k := fun k h0 h1 => by rw [F 0 (by omega) (by omega), hJ0 k h0 h1]
      have hWM : WfM G := by
        obtain ⟨w0, w1, w2, w3, w4, w5, w6, w7, w8, w9, w10⟩ := h.mi.1
        refine ⟨by rw [F90]; exact c.1, by rw [F91]; omega, by rw [F92]; omega, fun p hp => ?_, fun p hp => ?_, fun p k hp hk => ?_, fun k hk => by rw [F97 k hk]; omega, by rw [F10 3 (by omega)]; exact w7, by rw [F10 4 (by omega)]; exact w8, by rw [F10 5 (by omega)]; exact w9, by rw [F96]; exact c.2⟩
        · have e : mSz G p = mSz I p := F10 _ (by omega)
          rw [e]; exact w3 p hp
        · have e : mLn G p = mLn I p := F10 _ (by omega)
          rw [e]; exact w4 p hp
        · have e : mRk G p k = mRk I p k := F10 _ (by omega)
          rw [e]; exact w5 p k hp hk
      have hG4 : G 1 4 = 0 := by rw [G1 1 (by omega) (by omega)]; exact v2
      refine IV_chg h h.2.1 FR ⟨hW1, by rw [hG4]; omega⟩ hWM ⟨0, by omega, ?_⟩ ?_ F814 ?_ ?_ (fun k hk => ?_) (fun k hk => ?_) (fun x _ _ => GX x (by omega) (by omega) (by omega) (by omega) (by omega)) (G0 12 (by omega) (by omega)) (G0 13 (by omega) (by omega)) ?_ ?_ (RI_of h.1.2.2.2.2.1 (GX _ (by omega) (by omega) (by omega) (by omega) (by omega))) (fun hc => ?_) (fun x _ _ => GX x (by omega) (by omega) (by omega) (by omega) (by omega)) (F8 5 (by omega) (by omega) (by omega) (by omega)) (GX _ (by omega) (by omega) (by omega) (by omega) (by omega)) (GX _ (by omega) (by omega) (by omega) (by omega) (by omega)) (TXp_of h (GX _ (by omega) (by omega) (by omega) (by omega) (by omega)) (GX _ (by omega) (by omega) (by omega) (by omega) (by omega)) (GX _ (by omega) (by omega) (by omega) (by omega) (by omega)) (F8 8 (by omega) (by omega) (by omega) (by omega)) (GX _ (by omega) (by omega) (by omega) (by omega) (by omega)) (GX _ (by omega) (by omega) (by omega) (by omega) (by omega)) (F8 11 (by omega) (by omega) (by omega) (by omega)) (F8 13 (by omega) (by omega) (by omega) (by omega)))
      · refine ⟨⟨?_, ?_, ?_, ?_, by omega, by omega⟩, fun k hk => ?_, fun k hk => ?_, fun p hp => by omega, fun p h1 h2 => by omega, fun c9 hc9 => ⟨c9, hc9, ?_⟩⟩
        · rw [G1 1 (by omega) (by omega), F90]; exact v0
        · rw [G1 1 (by omega) (by omega), F92]; exact v1
        · exact hG4
        · exact F91
        · rw [G1 _ (by omega) (by omega), F97 k hk]; exact v3 k hk
        · rw [G1 _ (by omega) (by omega)]
          by_cases hk3 : k < 3
          · rw [v4 k hk3, F10 _ (by omega)]; exact hE.2.2.1 k hk
          · have hk3 : k = 3 := by omega
            subst hk3
            rw [v5]; exact F96.symm
        · rw [F90] at hc9
          exact F97 c9 (by omega)
      · rw [F 0 (by omega) (by omega)]; exact hJ01
      · rw [F 201 (by omega) (by omega), hJ21]; omega
      · rw [F 201 (by omega) (by omega), hJ21, F83]
      · rw [F 201 (by omega) (by omega), hJ21] at hk; omega
      · rw [F 201 (by omega) (by omega), hJ21] at hk; omega
      · rw [F 0 (by omega) (by omega)]; exact Or.inl hJ02
      · rw [F 0 (by omega) (by omega), hJ02, F84]
      · rw [F 0 (by omega) (by omega), hJ02] at hc; omega
    · refine OK1_ok ?_ ?_
      · show up (stM (up J 508 6 0) a) 509 6 b 508 6 = 0
        rw [up_ne (by omega), stM_v.2.1 6 (by omega) (by omega) (by omega), up_eq]
      · show I 1 0 = J 509 0
        rw [hJ2 509 (by omega) (by omega) (by omega)]
        exact hE.1.1
  · have e : bgR I a b = erI IAE I := by
      unfold bgR
      by_cases c1 : a < 2 ∨ 8 < a
      · rw [if_pos c1]
      · rw [if_neg c1, if_pos (by omega)]
    have ht : tBg a b = 1 := if_pos (by rw [inF_0, inF_0]; omega)
    rw [e]
    show MI I ∧ IV (bgM I a b).2 sl ∧ OK1 IAE (erI IAE I) (bgM I a b).1 (bgM I a b).2
    unfold bgM
    rw [ht, if_neg (by decide)]
    exact ⟨h.mi, IV_thr h (by omega), by dsimp only; exact OK1_e up_eq⟩
