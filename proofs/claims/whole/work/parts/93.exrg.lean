/-! execute: ranges, what stays -/
theorem rg_inc {I : II} {t : Nat} (h : RG I) (hT : TI I t) : RG (inc I t) := rg_up h (by have := hT.1; omega)
theorem rg_fl {I : II} {t : Nat} (h : RG I) : RG (fl I t) := rg_up h (h t 3)
theorem rg_nb {I : II} {t : Nat} (h : RG I) (hT : TI I t) : RG (nbR I t).2 := by
  unfold nbR
  split
  · exact rg_fl h
  · split
    · exact rg_inc h hT
    · refine rg_up (rg_inc h hT) ?_
      have h1 : inc I t t 3 = I t 3 + 1 := up_eq
      have := hT.1
      omega
theorem rg_pa {I : II} {t : Nat} {s : Int} (h : RG I) (hT : TI I t) : RG (paR I t s).2 := by
  unfold paR
  split
  · exact rg_inc h hT
  · exact rg_fl h
theorem rg_pn {I : II} {t e : Nat} (h : RG I) (hT : TI I t) : RG (pnR I t e).2 := by
  unfold pnR
  split
  · exact rg_up (rg_nb h hT) (h t 3)
  · exact rg_nb h hT
theorem rg_rk {t : Nat} {nc ls : Int} (hn : nc ≤ 8) : ∀ f k s (J : II), k + f ≤ 9 → TI J t → RG J → RG (rkL t nc ls f k s J).2
  | 0, _, _, _, _, _, h => h
  | f + 1, k, s, J, hk, hT, h => by
    have hc := ch_rng hT
    unfold rkL
    split
    · exact rg_up (rg_inc h hT) (by omega)
    · split
      · exact rg_fl h
      · have hT2 := TI_rk (k := k) (z := ch J t - 97) hT (by omega)
        refine rg_rk hn f (k + 1) _ _ (by omega) (TI_inc hT2 ?_) (rg_inc (rg_up h (by omega)) hT2)
        rw [up_ne (by omega)]
        exact ch_lt (by omega)
theorem rg_rankM {I : II} {e p a m : Nat} (h : RG I) (hm : m ≤ 1000) : RG (rankM I e p a m) := rg_fold (rg_up h (by omega)) (fun k J hJ => rg_up hJ (hJ a k)) m
theorem rg_drawM {I : II} {e a n : Nat} (h : RG I) : RG (drawM I e a n) := rg_fold h (fun k J hJ => rg_up hJ (hJ a k)) n
theorem rg_addM {I : II} {e a m : Nat} {z : Int} (h : RG I) (h4 : 0 ≤ I e 4 ∧ I e 4 ≤ 25) (hz : 0 ≤ z ∧ z ≤ 99) (hm : m ≤ 1000) : RG (addM I e a m z) := rg_rankM (rg_up (rg_up h (by omega)) (by omega)) hm
theorem rg_rkR {I : II} {t : Nat} {nc ls : Int} (hn : nc ≤ 8) (h : RG I) (hT : TI I t) : RG (rkR I t nc ls).2 := rg_rk hn 9 0 0 I (by omega) hT h
theorem rg_ad {I : II} {t e : Nat} (het : e + 31 ≤ t) (hW : WfT I e) (hT : TI I t) (h : RG I) : RG (adR I t e).2 := by
  have w := hW.1
  unfold adR
  split
  · exact rg_fl h
  · have n1 := rg_nb h hT
    have n2 := nb_TI hT
    have n3 := nb_rng I t
    have n4 : (nbR I t).2 e = I e := nb_e (by omega)
    unfold ad1
    split
    · exact n1
    · have p1 := rg_pa (s := 58) n1 n2
      have p2 := pa_TI (s := 58) n2 (by decide)
      have p4 : (paR (nbR I t).2 t 58).2 e = I e := (pa_e (by omega)).trans n4
      unfold ad2
      split
      · exact p1
      · have r1 := rg_rkR (nc := (paR (nbR I t).2 t 58).2 e 0) (ls := 1) (by rw [p4]; exact w.2.1) p1 p2
        have r2 := rk_TI (t := t) (nc := (paR (nbR I t).2 t 58).2 e 0) (ls := 1) (by rw [p4]; exact w.2.1) 9 0 0 (paR (nbR I t).2 t 58).2 (by omega) p2
        have r4 : (rkR (paR (nbR I t).2 t 58).2 t ((paR (nbR I t).2 t 58).2 e 0) 1).2 e = I e := (rk_e (by omega) (by omega) 9 0 0 _).trans p4
        unfold ad3
        split
        · exact r1
        · have r5 := r2.2.2.2
          exact rg_addM r1 (by rw [r4]; exact ⟨w.2.2.1, w.2.2.2.1⟩) (by omega) (by show ((rkL t ((paR (nbR I t).2 t 58).2 e 0) 1 9 0 0 (paR (nbR I t).2 t 58).2).2 t 2).toNat ≤ 1000; omega)
theorem rg_sz {I : II} {t e : Nat} (hT : TI I t) (hlt : I t 3 < I t 4) (h : RG I) : RG (szR I t e).2 := by
  have i1 := rg_inc h hT
  have i2 := TI_inc hT hlt
  unfold szR sz1
  have n1 := rg_pn (e := e) i1 i2
  have n2 := pn_TI (e := e) i2
  split
  · exact n1
  · have p1 := rg_pa (s := 61) n1 n2
    have p2 := pa_TI (s := 61) n2 (by decide)
    unfold sz2
    split
    · exact p1
    · have m1 := rg_nb p1 p2
      have m2 := nb_TI p2
      have m3 := nb_rng (paR (pnR (inc I t) t e).2 t 61).2 t
      unfold sz3
      split
      · exact m1
      · have q1 := rg_pa (s := 59) m1 m2
        unfold sz4
        split
        · exact q1
        · exact rg_up q1 (by omega)
theorem rg_rq {I : II} {t e : Nat} (het : e + 31 ≤ t) (hW : WfT I e) (hT : TI I t) (hlt : I t 3 < I t 4) (h : RG I) : RG (rqR I t e).2 := by
  have w := hW.1
  have i1 := rg_inc h hT
  have i2 := TI_inc hT hlt
  unfold rqR rq1
  have n1 := rg_pn (e := e) i1 i2
  have n2 := pn_TI (e := e) i2
  have n4 : (pnR (inc I t) t e).2 e = I e := (pn_e (by omega)).trans (inc_e (by omega))
  split
  · exact n1
  · have p1 := rg_pa (s := 58) n1 n2
    have p2 := pa_TI (s := 58) n2 (by decide)
    have p4 : (paR (pnR (inc I t) t e).2 t 58).2 e = I e := (pa_e (by omega)).trans n4
    unfold rq2
    split
    · exact p1
    · have r1 := rg_rkR (nc := (paR (pnR (inc I t) t e).2 t 58).2 e 0) (ls := 1) (by rw [p4]; exact w.2.1) p1 p2
      have r2 := rk_TI (t := t) (nc := (paR (pnR (inc I t) t e).2 t 58).2 e 0) (ls := 1) (by rw [p4]; exact w.2.1) 9 0 0 (paR (pnR (inc I t) t e).2 t 58).2 (by omega) p2
      unfold rq3
      split
      · exact r1
      · have r5 := r2.2.2.2
        exact rg_rankM r1 (by show ((rkL t ((paR (pnR (inc I t) t e).2 t 58).2 e 0) 1 9 0 0 (paR (pnR (inc I t) t e).2 t 58).2).2 t 2).toNat ≤ 1000; omega)
theorem rg_lt {I : II} {t e : Nat} (hW : WfT I e) (hT : TI I t) (hlt : I t 3 < I t 4) (h : RG I) : RG (ltR I t e).2 := by
  have r1 := rg_rkR (nc := I e 0) (ls := I e 0) hW.1.2.1 (rg_inc h hT) (TI_inc hT hlt)
  unfold ltR lt1
  split
  · exact r1
  · exact rg_drawM r1
theorem rg_cm {I : II} {t e : Nat} (het : e + 31 ≤ t) (hW : WfT I e) (hT : TI I t) (h : RG I) : RG (cmR I t e).2 := by
  unfold cmR
  split
  · exact rg_sz hT (ch_lt (by omega)) h
  · split
    · exact rg_rq het hW hT (ch_lt (by omega)) h
    · split
      · exact rg_lt hW hT (ch_lt (by omega)) h
      · exact rg_ad het hW hT h
theorem rg_ri {t e : Nat} (het : e + 31 ≤ t) : ∀ f k (J : II), WfT J e → TI J t → RG J → RG (riL t e f k J).2
  | 0, _, _, _, _, h => h
  | f + 1, k, J, hW, hT, h => by
    have hC := cm_ok het hW hT
    have h1 := rg_cm het hW hT h
    unfold riL
    split
    · exact h
    · split
      · exact h1
      · exact rg_ri het f (k + 1) _ hC.2.2 hC.2.1 h1
theorem rg_exJ {I : II} (hW : WfT I 1) (hT : TI0 I 198) (h : RG I) : RG (exJ I).2 := by
  obtain ⟨h1, h2⟩ := ex_0 hW hT
  exact rg_ri (by omega) 61 0 _ (WfT_00 h1 (by omega)) (TI_00 h2) (rg_up (rg_up (rg_cpyE h) (by omega)) (by omega))
/-- the model: a command leaves what is not the text's and the election's, and the number of candidates -/
def CMF (J K : II) : Prop := (∀ x, x ≠ 508 → x ≠ 509 → x ≠ 514 → K x = J x) ∧ K 509 0 = J 509 0
theorem CMF.tr {A B C : II} (h1 : CMF A B) (h2 : CMF B C) : CMF A C := ⟨fun x a b c => (h2.1 x a b c).trans (h1.1 x a b c), h2.2.trans h1.2⟩
theorem cmf_8 {J K : II} (h : ∀ x, x ≠ 508 → K x = J x) : CMF J K := ⟨fun x a _ _ => h x a, by rw [h 509 (by omega)]⟩
theorem cmf_84 {J K : II} (h : ∀ x, x ≠ 508 → x ≠ 514 → K x = J x) : CMF J K := ⟨fun x a _ c => h x a c, by rw [h 509 (by omega) (by omega)]⟩
theorem cmf_sr {J : II} {p : Nat} : CMF J (srM J p) := ⟨fun x _ b _ => sr_8 b, by rw [sr_v, if_neg (by omega), if_neg (by omega)]⟩
theorem cmf_rpE {J : II} {z : Int} : CMF J (rpE J z) := by
  refine ⟨fun x _ b _ => rpE_8 b, ?_⟩
  unfold rpE
  rw [up_nk (by omega), sr_v, if_neg (by omega), if_neg (by omega), up_nk (by omega)]
theorem cmf_cm {J K : II} (h : TX J) (hK : cmO J = some K) : CMF J K := by
  unfold cmO at hK
  split at hK
  · unfold rpO at hK
    obtain ⟨C, hC, hC2⟩ := Option.map_eq_some_iff.mp hK
    have h1 : CMF J C := (cmf_8 fun x hx => rp_s hx).tr (cmf_84 (TX_rr (TX_rpB h) hC).2)
    have h2 : CMF J (wtM C 59) := h1.tr (cmf_8 fun x hx => wt_s hx)
    split at hC2
    · rw [← hC2]; exact h2.tr cmf_rpE
    · rw [← hC2]; exact h2
  · rename_i g0
    split at hK
    · rename_i g1
      have hc : ¬ hrM J = 0 := by omega
      obtain rfl : rcN J = K := by simpa using hK
      have h1 : CMF J (rcB J) := cmf_8 fun x hx => by
        unfold rcB rcA
        rw [wt_s hx, nu_s hx, wt_s hx, kp_s hx, pc_s hx]
      unfold rcN
      split
      · refine h1.tr ⟨fun x _ b _ => up_ne b, up_nk (by omega)⟩
      · exact h1
    · split at hK
      · rename_i g1
        have hc : ¬ hrM J = 0 := by omega
        unfold rcR9 at hK
        obtain ⟨C, hC, hC2⟩ := Option.map_eq_some_iff.mp hK
        have h0 : CMF J (wtM (kpR (pcM J)).2 58) := cmf_8 fun x hx => by rw [wt_s hx, kp_s hx, pc_s hx]
        have h1 : CMF J C := h0.tr (cmf_84 (TX_rr (TX_kw h hc) hC).2)
        have h2 : CMF J (wtM C 59) := h1.tr (cmf_8 fun x hx => wt_s hx)
        split at hC2
        · rw [← hC2]; exact h2.tr cmf_sr
        · rw [← hC2]; exact h2
      · split at hK
        · rename_i g1
          have hc : ¬ hrM J = 0 := by omega
          unfold rlO at hK
          obtain ⟨C, hC, hC2⟩ := Option.map_eq_some_iff.mp hK
          have h1 : CMF J C := (cmf_8 fun x hx => pc_s hx).tr (cmf_84 (TX_rr (TX_pc1 h hc) hC).2)
          have h2 : CMF J (rlB C) := by
            unfold rlB
            split
            · exact h1.tr (cmf_8 fun x hx => wg_s hx)
            · exact h1
          have h3 : CMF J (wtM (rlB C) 59) := h2.tr (cmf_8 fun x hx => wt_s hx)
          unfold rlE at hC2
          split at hC2
          · rw [← hC2]
            exact h3.tr ⟨fun x _ b _ => cpy_ne b, cpy_o (by omega)⟩
          · rw [← hC2]; exact h3
        · obtain rfl : wgM J (J 508 9) = K := by simpa using hK
          exact cmf_8 fun x hx => wg_s hx
theorem cmf_ex {K : II} {z : Int} : ∀ (f k : Nat) (J : II), exL f k J = some (z, K) → TX J → CMF J K
  | 0, _, _, h, _ => by cases h
  | f + 1, k, J, h, hT => by
    unfold exL at h
    split at h
    · obtain ⟨C, hC, h2⟩ := Option.bind_eq_some_iff.mp h
      exact (cmf_cm hT hC).tr (cmf_ex f (k + 1) C h2 (TX_cm hT hC))
    · obtain ⟨-, rfl⟩ : (k : Int) = z ∧ J = K := by simpa using h
      exact ⟨fun _ _ _ _ => rfl, rfl⟩
