/-! THE MODEL: its commands -/
theorem nb_wt {J : II} {s : Int} (hT : TX J) (h : wtM J s 508 10 = 0) : J 508 10 = 0 := by
  by_cases h0 : J 508 10 = 0
  · exact h0
  · have e : wtI J s = J := by
      unfold wtI
      split
      · rfl
      · exact if_neg h0
    unfold wtM at h
    rw [e, if_neg h0] at h
    exact h
theorem nb_nu {J : II} (h : (nuR J).2 508 10 = 0) : J 508 10 = 0 := by
  by_cases h0 : J 508 10 = 0
  · exact h0
  · unfold nuR at h
    rw [if_pos (Or.inl h0)] at h
    unfold wgM at h
    rw [if_neg h0] at h
    exact h
theorem nb_kp {J : II} (h : (kpR J).2 508 10 = 0) : J 508 10 = 0 := by
  unfold kpR at h
  split at h
  · rename_i hc
    exact nb_nu hc.1
  · exact nb_nu h
theorem nb_rr {J K : II} (hK : rrO J = some K) (h : K 508 10 = 0) : J 508 10 = 0 := by
  by_cases h0 : J 508 10 = 0
  · exact h0
  · unfold rrO rrL at hK
    rw [if_pos (by rw [up_nk (by omega)]; exact h0)] at hK
    obtain rfl : up J 508 13 0 = K := by simpa using hK
    rw [up_nk (by omega)] at h
    exact h
theorem TX_z {J : II} {p : Nat} {z : Int} (h : TX J) (hp : p < 25) (hz : 0 ≤ z ∧ z ≤ 99) : TX (up J 509 (15 + 10 * p) z) :=
  TX_9 h ⟨WfM_size h.1.1 hp hz, rg_up h.1.2 (by omega)⟩ (fun _ hx => up_ne hx) (by rw [up_nk (by omega)]; exact h.2.2.2.2.2.2)
theorem sr_1 {J : II} {p : Nat} (hp : p < 25) : srM J p 509 1 = J 509 1 := by
  unfold srM
  rw [cpy_at]
  dsimp only
  rw [if_neg (by omega), up_nk (by omega)]
def rpE (K : II) (z : Int) : II := up (srM (up K 509 (15 + 10 * (K 509 1).toNat) z) (K 509 1).toNat) 509 1 (K 509 1 + 1)
def rpA (J : II) : II := if J 509 1 = 24 then wgM J (J 508 9) else J
def rpB (J : II) : II := wtM (nuR (rpA J)).2 58
def rpO (J : II) : Option II := (rrO (rpB J)).map (fun C => if wtM C 59 508 10 = 0 then rpE (wtM C 59) (nuR (rpA J)).1 else wtM C 59)
def rcA (J : II) : II := wtM (kpR (pcM J)).2 61
def rcB (J : II) : II := wtM (nuR (rcA J)).2 59
def rcN (J : II) : II := if rcB J 508 10 = 0 then up (rcB J) 509 (15 + 10 * (kpR (pcM J)).1.toNat) (nuR (rcA J)).1 else rcB J
def rcR9 (J : II) : Option II := (rrO (wtM (kpR (pcM J)).2 58)).map (fun C => if wtM C 59 508 10 = 0 then srM (wtM C 59) (kpR (pcM J)).1.toNat else wtM C 59)
def rlB (A : II) : II := if A 508 10 = 0 ∧ A 508 13 < A 509 0 then wgM A (A 508 9) else A
def rlE (A : II) : II := if wtM (rlB A) 59 508 10 = 0 then cpy (wtM (rlB A) 59) 514 509 0 7 (wtM (rlB A) 59 508 13).toNat else wtM (rlB A) 59
def rlO (J : II) : Option II := (rrO (pcM J)).map rlE
def cmO (J : II) : Option II := if 48 ≤ hrM J ∧ hrM J ≤ 57 then rpO J else if hrM J = 35 then some (rcN J) else if hrM J = 126 then rcR9 J else if hrM J = 33 then rlO J else some (wgM J (J 508 9))
def exL : Nat → Nat → II → Option (Int × II)
  | 0, _, _ => none
  | f + 1, k, J => if J 508 10 = 0 ∧ (k = 0 ∨ J 508 9 < J 508 8) then (cmO J).bind (exL f (k + 1)) else some ((k : Int), J)
def puA (J : II) : II := if J 508 3 = 8 then up (cpy J 511 511 265 0 1855) 508 3 (J 508 3 - 1) else J
def puM (J : II) (a : Nat) : II := up (up (cpy (puA J) a 511 0 (265 * (puA J 508 3).toNat) 265) 508 3 (puA J 508 3 + 1)) 508 14 0
def exT (B : II) : II := up (up (up B 508 8 0) 508 11 (if B 508 10 = 0 then -1 else B 508 9)) 508 6 (if B 508 10 = 0 then 0 else 1)
def exB (J : II) : II := up (up (cpy J 509 510 0 0 265) 508 9 0) 508 10 0
def xeO (J : II) : Option (Int × II) := (exL 62 0 (exB J)).map (fun q => if q.2 508 10 = 0 then (q.1, puM (exT q.2) 510) else (0, cpy (exT q.2) 510 509 0 0 265))
theorem TX_rpA {J : II} (h : TX J) : TX (rpA J) := by
  unfold rpA
  split
  · exact TX_wg h (by have := h.2.1; omega)
  · exact h
theorem TX_rpB {J : II} (h : TX J) : TX (rpB J) := TX_wt (TX_nu (TX_rpA h)) (by decide)
theorem rp_s {J : II} {x : Nat} (hx : x ≠ 508) : rpB J x = J x := by
  unfold rpB
  rw [wt_s hx, nu_s hx]
  unfold rpA
  split
  · exact wg_s hx
  · rfl
theorem rp_24 {J C : II} (h : TX J) (hC : rrO (rpB J) = some C) (h0 : wtM C 59 508 10 = 0) : J 509 1 ≤ 23 := by
  have h1 := nb_wt (TX_rr (TX_rpB h) hC).1 h0
  have h2 := nb_nu (nb_wt (TX_nu (TX_rpA h)) (nb_rr hC h1))
  have h7 := h.2.2.2.2.2.2
  by_cases e : J 509 1 = 24
  · unfold rpA at h2
    rw [if_pos e, wg_1 h] at h2
    omega
  · omega
theorem TX_rp {J K : II} (h : TX J) (hK : rpO J = some K) : TX K := by
  unfold rpO at hK
  obtain ⟨C, hC, rfl⟩ := Option.map_eq_some_iff.mp hK
  obtain ⟨hT, hs⟩ := TX_rr (TX_rpB h) hC
  have hD : TX (wtM C 59) := TX_wt hT (by decide)
  have hz := nu_rng (TX_rpA h)
  split
  · rename_i h0
    have h24 := rp_24 h hC h0
    have e1 : wtM C 59 509 1 = J 509 1 := by rw [wt_s (by omega), hs 509 (by omega) (by omega), rp_s (by omega)]
    have w1 := h.1.1.2.1
    have hU := TX_sr (TX_z (p := (wtM C 59 509 1).toNat) hD (by omega) hz) (p := (wtM C 59 509 1).toNat) (by omega)
    unfold rpE
    refine TX_9 hU ⟨WfM_s hU.1.1 (fun e => by omega) (fun _ => by omega) (fun e => by omega) (fun q hq e => by omega) (fun q hq e => by omega) (fun q k hq hk e => by omega) (fun k hk e => by omega) (fun e => by omega) (fun e => by omega) (fun e => by omega) (fun e => by omega), rg_up hU.1.2 (by omega)⟩ (fun _ hx => up_ne hx) (by rw [up_eq]; omega)
  · exact hD
theorem TX_pc1 {J : II} (h : TX J) (hc : ¬ hrM J = 0) : TX (pcM J) := TX_pc h (hr_lt hc)
theorem TX_rcA {J : II} (h : TX J) (hc : ¬ hrM J = 0) : TX (rcA J) := TX_wt (TX_kp (TX_pc1 h hc)) (by decide)
theorem TX_rcB {J : II} (h : TX J) (hc : ¬ hrM J = 0) : TX (rcB J) := TX_wt (TX_nu (TX_rcA h hc)) (by decide)
theorem rc_p {J : II} (h : TX J) (hc : ¬ hrM J = 0) (h0 : (kpR (pcM J)).2 508 10 = 0) : 0 ≤ (kpR (pcM J)).1 ∧ (kpR (pcM J)).1 < 24 := by
  have h1 := kp_ok (TX_pc1 h hc) h0
  have h2 := kp_rng (TX_pc1 h hc)
  rw [pc_s (by omega)] at h1
  have h7 := h.2.2.2.2.2.2
  omega
theorem rcB_0 {J : II} (h : TX J) (hc : ¬ hrM J = 0) (h0 : rcB J 508 10 = 0) : (kpR (pcM J)).2 508 10 = 0 := nb_wt (TX_kp (TX_pc1 h hc)) (nb_nu (nb_wt (TX_nu (TX_rcA h hc)) h0))
theorem TX_rcN {J : II} (h : TX J) (hc : ¬ hrM J = 0) : TX (rcN J) := by
  unfold rcN
  split
  · rename_i h0
    have h1 := rc_p h hc (rcB_0 h hc h0)
    exact TX_z (TX_rcB h hc) (by omega) (nu_rng (TX_rcA h hc))
  · exact TX_rcB h hc
theorem TX_kw {J : II} (h : TX J) (hc : ¬ hrM J = 0) : TX (wtM (kpR (pcM J)).2 58) := TX_wt (TX_kp (TX_pc1 h hc)) (by decide)
theorem rc9_0 {J C : II} (h : TX J) (hc : ¬ hrM J = 0) (hC : rrO (wtM (kpR (pcM J)).2 58) = some C) (h0 : wtM C 59 508 10 = 0) : (kpR (pcM J)).2 508 10 = 0 := nb_wt (TX_kp (TX_pc1 h hc)) (nb_rr hC (nb_wt (TX_rr (TX_kw h hc) hC).1 h0))
theorem TX_rc9 {J K : II} (h : TX J) (hc : ¬ hrM J = 0) (hK : rcR9 J = some K) : TX K := by
  unfold rcR9 at hK
  obtain ⟨C, hC, rfl⟩ := Option.map_eq_some_iff.mp hK
  have hD : TX (wtM C 59) := TX_wt (TX_rr (TX_kw h hc) hC).1 (by decide)
  split
  · rename_i h0
    have h1 := rc_p h hc (rc9_0 h hc hC h0)
    exact TX_sr hD (by omega)
  · exact hD
theorem TX_rlB {A : II} (h : TX A) : TX (rlB A) := by
  unfold rlB
  split
  · exact TX_wg h (by have := h.2.1; omega)
  · exact h
theorem TX_rlE {A : II} (h : TX A) : TX (rlE A) := by
  have hD : TX (wtM (rlB A) 59) := TX_wt (TX_rlB h) (by decide)
  have h6 := hD.2.2.2.2.2.1
  unfold rlE
  split
  · refine TX_9 hD ⟨WfM_cl hD.1.1 (by omega) hD.2.2.2.2.1, rg_cpy hD.1.2⟩ (fun _ hx => cpy_ne hx) ?_
    rw [cpy_at]
    dsimp only
    rw [if_neg (by omega)]
    exact hD.2.2.2.2.2.2
  · exact hD
theorem TX_rl {J K : II} (h : TX J) (hc : ¬ hrM J = 0) (hK : rlO J = some K) : TX K := by
  unfold rlO at hK
  obtain ⟨C, hC, rfl⟩ := Option.map_eq_some_iff.mp hK
  exact TX_rlE (TX_rr (TX_pc1 h hc) hC).1
theorem TX_cm {J K : II} (h : TX J) (hK : cmO J = some K) : TX K := by
  unfold cmO at hK
  split at hK
  · exact TX_rp h hK
  · split at hK
    · obtain rfl : rcN J = K := by simpa using hK
      exact TX_rcN h (by omega)
    · split at hK
      · exact TX_rc9 h (by omega) hK
      · split at hK
        · exact TX_rl h (by omega) hK
        · obtain rfl : wgM J (J 508 9) = K := by simpa using hK
          exact TX_wg h (by have := h.2.1; omega)
theorem TX_ex {K : II} {z : Int} : ∀ (f k : Nat) (J : II), exL f k J = some (z, K) → TX J → TX K
  | 0, _, _, h, _ => by cases h
  | f + 1, k, J, h, hT => by
    unfold exL at h
    split at h
    · obtain ⟨J2, h1, h2⟩ := Option.bind_eq_some_iff.mp h
      exact TX_ex f (k + 1) J2 h2 (TX_cm hT h1)
    · have h2 : ((k : Int), J) = (z, K) := by simpa using h
      obtain rfl : J = K := congrArg Prod.snd h2
      exact hT
/-- between the calls -/
def TB (J : II) : Prop := MI J ∧ (0 ≤ J 508 8 ∧ J 508 8 ≤ 60) ∧ (∀ k, k < 60 → 0 ≤ J 513 k ∧ J 513 k ≤ 126) ∧ (∀ k, k < 8 → 0 ≤ J 514 k ∧ J 514 k < 8) ∧ (0 ≤ J 508 13 ∧ J 508 13 ≤ 8) ∧ J 509 1 ≤ 24
theorem TX_B {J : II} (h : TB J) : TX (exB J) := by
  obtain ⟨h1, h2, h3, h4, h5, h6⟩ := h
  have hM : MI (exB J) := MI_up (MI_up ⟨WfM_of h1.1 (cpy_ne (by omega)), rg_cpy h1.2⟩ (by omega) (by omega)) (by omega) (by omega)
  have e : ∀ x, x ≠ 508 → x ≠ 510 → exB J x = J x := fun x a b => by
    unfold exB
    rw [up_ne a, up_ne a, cpy_ne b]
  have e8 : ∀ k, k ≠ 9 → k ≠ 10 → exB J 508 k = J 508 k := fun k a b => by
    unfold exB
    rw [up_nk b, up_nk a, cpy_ne (by omega)]
  have e9 : exB J 508 9 = 0 := by
    unfold exB
    rw [up_nk (by omega), up_eq]
  have e10 : exB J 508 10 = 0 := up_eq
  exact ⟨hM, by rw [e9, e8 8 (by omega) (by omega)]; omega, Or.inl e10, fun k hk => by rw [e 513 (by omega) (by omega)]; exact h3 k hk, fun k hk => by rw [e 514 (by omega) (by omega)]; exact h4 k hk, by rw [e8 13 (by omega) (by omega)]; exact h5, by rw [e 509 (by omega) (by omega)]; exact h6⟩

set_option maxRecDepth 100000 in
set_option maxHeartbeats 4000000 in
theorem k_readPile {l : Launch} {g : GV} {S : SS} {I : II} {X : XX} {K : II} (hfl : l.stackTraces = false) (hM : isMod S) (hT : TX I) (hK : rpO I = some K) : CE l g mX9_readPile 3 [.ref 508] S I X none K := by
  obtain ⟨m0, ⟨p509, q509⟩, ⟨p510, q510⟩, ⟨p511, q511⟩, ⟨p512, q512⟩, ⟨p513, q513⟩, ⟨p514, q514⟩, ⟨p515, q515⟩, ⟨p516, q516⟩, ⟨p517, q517⟩, ⟨p518, q518⟩, ⟨p519, q519⟩, ⟨p520, q520⟩, ⟨p521, q521⟩, ⟨p522, q522⟩, ⟨p523, q523⟩, ⟨p524, q524⟩, ⟨p525, q525⟩, ⟨p526, q526⟩, ⟨p527, q527⟩, ⟨p528, q528⟩, ⟨p529, q529⟩, ⟨p530, q530⟩, ⟨p531, q531⟩, ⟨p532, q532⟩, ⟨p533, q533⟩, ⟨p534, q534⟩, ⟨p535, q535⟩, ⟨p536, q536⟩, ⟨p537, q537⟩, ⟨p538, q538⟩, ⟨p539, q539⟩, ⟨p540, q540⟩⟩ := id hM
  obtain ⟨t1, t2, t3, t4, t5, t6, t7⟩ := id hT
  have hMI := t1
  obtain ⟨w0, w1, w2, w3, w4, w5, w6, w7, w8, w9, w10⟩ := id hMI.1
  unfold rpO at hK
  obtain ⟨C, hC, rfl⟩ := Option.map_eq_some_iff.mp hK
  have hA := TX_rpA hT
  have hz := nu_rng hA
  obtain ⟨hCT, hs⟩ := TX_rr (TX_rpB hT) hC
  have hD : TX (wtM C 59) := TX_wt hCT (by decide)
  have hD3 := hD.2.2.1
  have e1 : wtM C 59 509 1 = I 509 1 := by rw [wt_s (by omega), hs 509 (by omega) (by omega), rp_s (by omega)]
  have M19 : V l g mX9_readPile 3 (Zm g (QE none S (if wtM C 59 508 10 = 0 then rpE (wtM C 59) (nuR (rpA I)).1 else wtM C 59) X)) 0 0 19 [some (.ref 508), none] [] S (rpA I) X := by
    refine v_aload_n dX9_readPile_19 rfl ?_
    refine v_cV0 dX9_readPile_20 lk_X9_158 (by assumption) (by decide) rfl (k_number hfl hM hA) (by decide) (Nat.le_of_ble_eq_true rfl) ?_ rfl
    refine v_istn1 dX9_readPile_23 rfl ?_
    refine v_aload_n dX9_readPile_24 rfl ?_
    refine v_bipush dX9_readPile_25 (by decide) ?_
    refine v_cV1n dX9_readPile_27 lk_X9_171 (by assumption) (by decide) rfl (k_wants hfl hM (TX_nu hA) (by omega)) (by decide) (Nat.le_of_ble_eq_true rfl) ?_ rfl
    refine v_aload_n dX9_readPile_30 rfl ?_
    refine v_cV0n dX9_readPile_31 lk_X9_174 (by assumption) (by decide) rfl (k_readRanking hfl hM (TX_rpB hT) hC) (by decide) (Nat.le_of_ble_eq_true rfl) ?_ rfl
    refine v_aload_n dX9_readPile_34 rfl ?_
    refine v_bipush dX9_readPile_35 (by decide) ?_
    refine v_cV1n dX9_readPile_37 lk_X9_171 (by assumption) (by decide) rfl (k_wants hfl hM hCT (by omega)) (by decide) (Nat.le_of_ble_eq_true rfl) ?_ rfl
    refine v_aload_n dX9_readPile_40 rfl ?_
    refine v_geti dX9_readPile_41 fr_X9_148 (by assumption) (by decide) rfl ?_
    refine v_if_ne (tgt := 83) dX9_readPile_44 (by decide) (fun h44 => ?_) (fun h44 => ?_)
    · first
        | exact v_vE dX9_readPile_83 rfl (by rw [if_neg (by omega)])
        | exact v_vE dX9_readPile_83 rfl (by rw [if_pos (by omega)]; unfold rpE; rw [hn1]; rfl)
    · have h24 := rp_24 hT hC (by omega)
      obtain ⟨n1, hn1⟩ := Int.eq_ofNat_of_zero_le (show 0 ≤ wtM C 59 509 1 by omega)
      refine v_aload_n dX9_readPile_47 rfl ?_
      refine v_getr dX9_readPile_48 fr_X9_9 (by assumption) (by decide) rfl (by assumption) ?_
      refine v_aload_n dX9_readPile_51 rfl ?_
      refine v_getr dX9_readPile_52 fr_X9_9 (by assumption) (by decide) rfl (by assumption) ?_
      refine v_iconst dX9_readPile_55 ?_
      refine v_iald (j := 1) dX9_readPile_56 (by assumption) (by first | rfl | omega) (by omega) ?_
      refine v_iconst dX9_readPile_57 ?_
      refine v_cS2 dX9_readPile_58 lk_X9_122 (k_pileAt hfl) (by decide) (Nat.le_of_ble_eq_true rfl) ?_ rfl
      refine v_iload_n dX9_readPile_61 rfl ?_
      refine v_iast (j := 15 + 10 * n1) dX9_readPile_62 (by assumption) (by omega) (by omega) ?_
      refine v_aload_n dX9_readPile_63 rfl ?_
      refine v_aload_n dX9_readPile_64 rfl ?_
      refine v_getr dX9_readPile_65 fr_X9_9 (by assumption) (by decide) rfl (by assumption) ?_
      refine v_iconst dX9_readPile_68 ?_
      refine v_iald (j := 1) dX9_readPile_69 (by assumption) rfl (by omega) ?_
      rw [up_nk (by omega)]
      rw [hn1]
      refine v_cV1n dX9_readPile_70 lk_X9_177 (by assumption) (by decide) rfl (k_setRanking hfl hM (TX_z (p := n1) hD (by omega) hz) (by omega)) (by decide) (Nat.le_of_ble_eq_true rfl) ?_ rfl
      refine v_aload_n dX9_readPile_73 rfl ?_
      refine v_getr dX9_readPile_74 fr_X9_9 (by assumption) (by decide) rfl (by assumption) ?_
      refine v_iconst dX9_readPile_77 ?_
      refine v_dup2 dX9_readPile_78 rfl rfl ?_
      refine v_iald (j := 1) dX9_readPile_79 (by assumption) rfl (by omega) ?_
      rw [sr_1 (by omega), up_nk (by omega)]
      refine v_iconst dX9_readPile_80 ?_
      refine v_iadd dX9_readPile_81 ?_
      refine v_iast (j := 1) dX9_readPile_82 (by assumption) rfl (by omega) ?_
      first
        | exact v_vE dX9_readPile_83 rfl (by rw [if_neg (by omega)])
        | exact v_vE dX9_readPile_83 rfl (by rw [if_pos (by omega)]; unfold rpE; rw [hn1]; rfl)
  refine v_startE hfl rfl (by decide) (Nat.le_of_ble_eq_true rfl) (ls := [some (.ref 508), none]) rfl ?_
  refine v_aload_n dX9_readPile_0 rfl ?_
  refine v_getr dX9_readPile_1 fr_X9_9 (by assumption) (by decide) rfl (by assumption) ?_
  refine v_iconst dX9_readPile_4 ?_
  refine v_iald (j := 1) dX9_readPile_5 (by assumption) (by first | rfl | omega) (by omega) ?_
  refine v_bipush dX9_readPile_6 (by decide) ?_
  refine v_ic_ne (tgt := 19) dX9_readPile_8 (by decide) (fun h8 => ?_) (fun h8 => ?_)
  · exact v_eq M19 rfl rfl rfl rfl (by unfold rpA; first | exact (if_pos (by omega)).symm | exact (if_neg (by omega)).symm) rfl
  · refine v_aload_n dX9_readPile_11 rfl ?_
    refine v_aload_n dX9_readPile_12 rfl ?_
    refine v_geti dX9_readPile_13 fr_X9_145 (by assumption) (by decide) rfl ?_
    refine v_cV1n dX9_readPile_16 lk_X9_155 (by assumption) (by decide) rfl (k_wrongAt hfl hM hT) (by decide) (Nat.le_of_ble_eq_true rfl) ?_ rfl
    exact v_eq M19 rfl rfl rfl rfl (by unfold rpA; first | exact (if_pos (by omega)).symm | exact (if_neg (by omega)).symm) rfl

set_option maxRecDepth 100000 in
set_option maxHeartbeats 4000000 in
theorem k_readSize {l : Launch} {g : GV} {S : SS} {I : II} {X : XX} (hfl : l.stackTraces = false) (hM : isMod S) (hT : TX I) (hc35 : hrM I = 35) : CE l g mX9_readChange 3 [.ref 508, .int (ii 35)] S I X none (rcN I) := by
  obtain ⟨m0, ⟨p509, q509⟩, ⟨p510, q510⟩, ⟨p511, q511⟩, ⟨p512, q512⟩, ⟨p513, q513⟩, ⟨p514, q514⟩, ⟨p515, q515⟩, ⟨p516, q516⟩, ⟨p517, q517⟩, ⟨p518, q518⟩, ⟨p519, q519⟩, ⟨p520, q520⟩, ⟨p521, q521⟩, ⟨p522, q522⟩, ⟨p523, q523⟩, ⟨p524, q524⟩, ⟨p525, q525⟩, ⟨p526, q526⟩, ⟨p527, q527⟩, ⟨p528, q528⟩, ⟨p529, q529⟩, ⟨p530, q530⟩, ⟨p531, q531⟩, ⟨p532, q532⟩, ⟨p533, q533⟩, ⟨p534, q534⟩, ⟨p535, q535⟩, ⟨p536, q536⟩, ⟨p537, q537⟩, ⟨p538, q538⟩, ⟨p539, q539⟩, ⟨p540, q540⟩⟩ := id hM
  obtain ⟨t1, t2, t3, t4, t5, t6, t7⟩ := id hT
  have hMI := t1
  obtain ⟨w0, w1, w2, w3, w4, w5, w6, w7, w8, w9, w10⟩ := id hMI.1
  have hc : ¬ hrM I = 0 := by omega
  have hP := TX_pc1 hT hc
  have hA := TX_rcA hT hc
  refine v_startE hfl rfl (by decide) (Nat.le_of_ble_eq_true rfl) (ls := [some (.ref 508), some (.int (ii 35)), none, none]) rfl ?_
  refine v_aload_n dX9_readChange_0 rfl ?_
  refine v_dup dX9_readChange_1 rfl ?_
  refine v_geti dX9_readChange_2 fr_X9_145 (by assumption) (by decide) rfl ?_
  refine v_iconst dX9_readChange_5 ?_
  refine v_iadd dX9_readChange_6 ?_
  refine v_puti dX9_readChange_7 fr_X9_145 (by assumption) (by decide) rfl ?_
  rw [show up I 508 9 (I 508 9 + 1) = pcM I from rfl]
  refine v_aload_n dX9_readChange_10 rfl ?_
  refine v_cV0 dX9_readChange_11 lk_X9_180 (by assumption) (by decide) rfl (k_knownPile hfl hM hP) (by decide) (Nat.le_of_ble_eq_true rfl) ?_ rfl
  refine v_istn2 dX9_readChange_14 rfl ?_
  refine v_iload_n dX9_readChange_15 rfl ?_
  refine v_bipush dX9_readChange_16 (by decide) ?_
  have hk9 := kp_rng hP
  refine v_ic_ne (tgt := 57) dX9_readChange_18 (by decide) (fun h18 => ?_) (fun h18 => ?_)
  · exfalso; omega
  · refine v_aload_n dX9_readChange_21 rfl ?_
    refine v_bipush dX9_readChange_22 (by decide) ?_
    refine v_cV1n dX9_readChange_24 lk_X9_171 (by assumption) (by decide) rfl (k_wants hfl hM (TX_kp hP) (by omega)) (by decide) (Nat.le_of_ble_eq_true rfl) ?_ rfl
    refine v_aload_n dX9_readChange_27 rfl ?_
    refine v_cV0 dX9_readChange_28 lk_X9_158 (by assumption) (by decide) rfl (k_number hfl hM hA) (by decide) (Nat.le_of_ble_eq_true rfl) ?_ rfl
    refine v_istn3 dX9_readChange_31 rfl ?_
    refine v_aload_n dX9_readChange_32 rfl ?_
    refine v_bipush dX9_readChange_33 (by decide) ?_
    refine v_cV1n dX9_readChange_35 lk_X9_171 (by assumption) (by decide) rfl (k_wants hfl hM (TX_nu hA) (by omega)) (by decide) (Nat.le_of_ble_eq_true rfl) ?_ rfl
    have hz := nu_rng hA
    rw [show wtM (nuR (wtM (kpR (pcM I)).2 61)).2 59 = rcB I from rfl]
    have hB := TX_rcB hT hc
    have hB3 := hB.2.2.1
    refine v_aload_n dX9_readChange_38 rfl ?_
    refine v_geti dX9_readChange_39 fr_X9_148 (by assumption) (by decide) rfl ?_
    refine v_if_ne (tgt := 56) dX9_readChange_42 (by decide) (fun h42 => ?_) (fun h42 => ?_)
    · first
        | exact v_vE dX9_readChange_56 rfl (by unfold rcN; rw [if_neg (by omega)]; first | done | rfl)
        | exact v_vE dX9_readChange_56 rfl (by unfold rcN; rw [if_pos (by omega)]; first | done | rfl)
    · have hrp := rc_p hT hc (rcB_0 hT hc (by omega))
      refine v_aload_n dX9_readChange_45 rfl ?_
      refine v_getr dX9_readChange_46 fr_X9_9 (by assumption) (by decide) rfl (by assumption) ?_
      refine v_iload_n dX9_readChange_49 rfl ?_
      refine v_iconst dX9_readChange_50 ?_
      refine v_cS2 dX9_readChange_51 lk_X9_122 (k_pileAt hfl) (by decide) (Nat.le_of_ble_eq_true rfl) ?_ rfl
      refine v_iload_n dX9_readChange_54 rfl ?_
      refine v_iast (j := 15 + 10 * (kpR (pcM I)).1.toNat) dX9_readChange_55 (by assumption) (by omega) (by omega) ?_
      first
        | exact v_vE dX9_readChange_56 rfl (by unfold rcN; rw [if_neg (by omega)]; first | done | rfl)
        | exact v_vE dX9_readChange_56 rfl (by unfold rcN; rw [if_pos (by omega)]; first | done | rfl)

set_option maxRecDepth 100000 in
set_option maxHeartbeats 4000000 in
theorem k_readRepl {l : Launch} {g : GV} {S : SS} {I : II} {X : XX} {K : II} (hfl : l.stackTraces = false) (hM : isMod S) (hT : TX I) (hc126 : hrM I = 126) (hK : rcR9 I = some K) : CE l g mX9_readChange 3 [.ref 508, .int (ii 126)] S I X none K := by
  obtain ⟨m0, ⟨p509, q509⟩, ⟨p510, q510⟩, ⟨p511, q511⟩, ⟨p512, q512⟩, ⟨p513, q513⟩, ⟨p514, q514⟩, ⟨p515, q515⟩, ⟨p516, q516⟩, ⟨p517, q517⟩, ⟨p518, q518⟩, ⟨p519, q519⟩, ⟨p520, q520⟩, ⟨p521, q521⟩, ⟨p522, q522⟩, ⟨p523, q523⟩, ⟨p524, q524⟩, ⟨p525, q525⟩, ⟨p526, q526⟩, ⟨p527, q527⟩, ⟨p528, q528⟩, ⟨p529, q529⟩, ⟨p530, q530⟩, ⟨p531, q531⟩, ⟨p532, q532⟩, ⟨p533, q533⟩, ⟨p534, q534⟩, ⟨p535, q535⟩, ⟨p536, q536⟩, ⟨p537, q537⟩, ⟨p538, q538⟩, ⟨p539, q539⟩, ⟨p540, q540⟩⟩ := id hM
  obtain ⟨t1, t2, t3, t4, t5, t6, t7⟩ := id hT
  have hMI := t1
  obtain ⟨w0, w1, w2, w3, w4, w5, w6, w7, w8, w9, w10⟩ := id hMI.1
  unfold rcR9 at hK
  obtain ⟨C, hC, rfl⟩ := Option.map_eq_some_iff.mp hK
  have hc : ¬ hrM I = 0 := by omega
  have hP := TX_pc1 hT hc
  obtain ⟨hCT, hs⟩ := TX_rr (TX_kw hT hc) hC
  have hD : TX (wtM C 59) := TX_wt hCT (by decide)
  have hD3 := hD.2.2.1
  refine v_startE hfl rfl (by decide) (Nat.le_of_ble_eq_true rfl) (ls := [some (.ref 508), some (.int (ii 126)), none, none]) rfl ?_
  refine v_aload_n dX9_readChange_0 rfl ?_
  refine v_dup dX9_readChange_1 rfl ?_
  refine v_geti dX9_readChange_2 fr_X9_145 (by assumption) (by decide) rfl ?_
  refine v_iconst dX9_readChange_5 ?_
  refine v_iadd dX9_readChange_6 ?_
  refine v_puti dX9_readChange_7 fr_X9_145 (by assumption) (by decide) rfl ?_
  rw [show up I 508 9 (I 508 9 + 1) = pcM I from rfl]
  refine v_aload_n dX9_readChange_10 rfl ?_
  refine v_cV0 dX9_readChange_11 lk_X9_180 (by assumption) (by decide) rfl (k_knownPile hfl hM hP) (by decide) (Nat.le_of_ble_eq_true rfl) ?_ rfl
  refine v_istn2 dX9_readChange_14 rfl ?_
  refine v_iload_n dX9_readChange_15 rfl ?_
  refine v_bipush dX9_readChange_16 (by decide) ?_
  have hk9 := kp_rng hP
  obtain ⟨q, hq⟩ := Int.eq_ofNat_of_zero_le hk9.1
  refine v_ic_ne (tgt := 57) dX9_readChange_18 (by decide) (fun h18 => ?_) (fun h18 => ?_)
  · refine v_aload_n dX9_readChange_57 rfl ?_
    refine v_bipush dX9_readChange_58 (by decide) ?_
    refine v_cV1n dX9_readChange_60 lk_X9_171 (by assumption) (by decide) rfl (k_wants hfl hM (TX_kp hP) (by omega)) (by decide) (Nat.le_of_ble_eq_true rfl) ?_ rfl
    refine v_aload_n dX9_readChange_63 rfl ?_
    refine v_cV0n dX9_readChange_64 lk_X9_174 (by assumption) (by decide) rfl (k_readRanking hfl hM (TX_kw hT hc) hC) (by decide) (Nat.le_of_ble_eq_true rfl) ?_ rfl
    refine v_aload_n dX9_readChange_67 rfl ?_
    refine v_bipush dX9_readChange_68 (by decide) ?_
    refine v_cV1n dX9_readChange_70 lk_X9_171 (by assumption) (by decide) rfl (k_wants hfl hM hCT (by omega)) (by decide) (Nat.le_of_ble_eq_true rfl) ?_ rfl
    refine v_aload_n dX9_readChange_73 rfl ?_
    refine v_geti dX9_readChange_74 fr_X9_148 (by assumption) (by decide) rfl ?_
    refine v_if_ne (tgt := 85) dX9_readChange_77 (by decide) (fun h77 => ?_) (fun h77 => ?_)
    · first
        | exact v_vE dX9_readChange_85 rfl (by rw [if_neg (by omega)])
        | exact v_vE dX9_readChange_85 rfl (by rw [if_pos (by omega), Int.toNat_natCast])
    · have hrp := rc_p hT hc (rc9_0 hT hc hC (by omega))
      refine v_aload_n dX9_readChange_80 rfl ?_
      rw [hq]
      refine v_iload_n dX9_readChange_81 rfl ?_
      refine v_cV1n dX9_readChange_82 lk_X9_177 (by assumption) (by decide) rfl (k_setRanking hfl hM hD (by omega)) (by decide) (Nat.le_of_ble_eq_true rfl) ?_ rfl
      first
        | exact v_vE dX9_readChange_85 rfl (by rw [if_neg (by omega)])
        | exact v_vE dX9_readChange_85 rfl (by rw [if_pos (by omega), Int.toNat_natCast])
  · exfalso; omega

set_option maxRecDepth 100000 in
set_option maxHeartbeats 4000000 in
theorem k_readLot {l : Launch} {g : GV} {S : SS} {I : II} {X : XX} {K : II} (hfl : l.stackTraces = false) (hM : isMod S) (hT : TX I) (hc33 : hrM I = 33) (hK : rlO I = some K) : CE l g mX9_readLot 3 [.ref 508] S I X none K := by
  obtain ⟨m0, ⟨p509, q509⟩, ⟨p510, q510⟩, ⟨p511, q511⟩, ⟨p512, q512⟩, ⟨p513, q513⟩, ⟨p514, q514⟩, ⟨p515, q515⟩, ⟨p516, q516⟩, ⟨p517, q517⟩, ⟨p518, q518⟩, ⟨p519, q519⟩, ⟨p520, q520⟩, ⟨p521, q521⟩, ⟨p522, q522⟩, ⟨p523, q523⟩, ⟨p524, q524⟩, ⟨p525, q525⟩, ⟨p526, q526⟩, ⟨p527, q527⟩, ⟨p528, q528⟩, ⟨p529, q529⟩, ⟨p530, q530⟩, ⟨p531, q531⟩, ⟨p532, q532⟩, ⟨p533, q533⟩, ⟨p534, q534⟩, ⟨p535, q535⟩, ⟨p536, q536⟩, ⟨p537, q537⟩, ⟨p538, q538⟩, ⟨p539, q539⟩, ⟨p540, q540⟩⟩ := id hM
  obtain ⟨t1, t2, t3, t4, t5, t6, t7⟩ := id hT
  have hMI := t1
  obtain ⟨w0, w1, w2, w3, w4, w5, w6, w7, w8, w9, w10⟩ := id hMI.1
  unfold rlO at hK
  obtain ⟨C, hC, rfl⟩ := Option.map_eq_some_iff.mp hK
  have hc : ¬ hrM I = 0 := by omega
  have hP := TX_pc1 hT hc
  obtain ⟨hCT, hs⟩ := TX_rr hP hC
  have hD : TX (wtM (rlB C) 59) := TX_wt (TX_rlB hCT) (by decide)
  have M42 : V l g mX9_readLot 3 (Zm g (QE none S (rlE C) X)) 0 0 42 [some (.ref 508)] [] S (rlB C) X := by
    refine v_aload_n dX9_readLot_42 rfl ?_
    refine v_bipush dX9_readLot_43 (by decide) ?_
    refine v_cV1n dX9_readLot_45 lk_X9_171 (by assumption) (by decide) rfl (k_wants hfl hM (TX_rlB hCT) (by omega)) (by decide) (Nat.le_of_ble_eq_true rfl) ?_ rfl
    have hD3 := hD.2.2.1
    have hD6 := hD.2.2.2.2.2.1
    refine v_aload_n dX9_readLot_48 rfl ?_
    refine v_geti dX9_readLot_49 fr_X9_148 (by assumption) (by decide) rfl ?_
    refine v_if_ne (tgt := 73) dX9_readLot_52 (by decide) (fun h52 => ?_) (fun h52 => ?_)
    · first
        | exact v_vE dX9_readLot_73 rfl (by unfold rlE; rw [if_neg (by omega)])
        | exact v_vE dX9_readLot_73 rfl (by unfold rlE; rw [if_pos (by omega)])
    · refine v_aload_n dX9_readLot_55 rfl ?_
      refine v_getr dX9_readLot_56 fr_X9_29 (by assumption) (by decide) rfl (by assumption) ?_
      refine v_iconst dX9_readLot_59 ?_
      refine v_aload_n dX9_readLot_60 rfl ?_
      refine v_getr dX9_readLot_61 fr_X9_9 (by assumption) (by decide) rfl (by assumption) ?_
      refine v_bipush dX9_readLot_64 (by decide) ?_
      refine v_aload_n dX9_readLot_66 rfl ?_
      refine v_geti dX9_readLot_67 fr_X9_165 (by assumption) (by decide) rfl ?_
      refine v_copy (sp := 0) (dq := 7) (n := (wtM (rlB C) 59 508 13).toNat) dX9_readLot_70 cy_X9_136 (by assumption) (by assumption) (by first | rfl | omega) (by first | rfl | omega) (by omega) (by omega) (by omega) (by decide) (Nat.le_of_ble_eq_true rfl) ?_
      first
        | exact v_vE dX9_readLot_73 rfl (by unfold rlE; rw [if_neg (by omega)])
        | exact v_vE dX9_readLot_73 rfl (by unfold rlE; rw [if_pos (by omega)])
  refine v_startE hfl rfl (by decide) (Nat.le_of_ble_eq_true rfl) (ls := [some (.ref 508)]) rfl ?_
  refine v_aload_n dX9_readLot_0 rfl ?_
  refine v_dup dX9_readLot_1 rfl ?_
  refine v_geti dX9_readLot_2 fr_X9_145 (by assumption) (by decide) rfl ?_
  refine v_iconst dX9_readLot_5 ?_
  refine v_iadd dX9_readLot_6 ?_
  refine v_puti dX9_readLot_7 fr_X9_145 (by assumption) (by decide) rfl ?_
  rw [show up I 508 9 (I 508 9 + 1) = pcM I from rfl]
  refine v_aload_n dX9_readLot_10 rfl ?_
  refine v_cV0n dX9_readLot_11 lk_X9_174 (by assumption) (by decide) rfl (k_readRanking hfl hM hP hC) (by decide) (Nat.le_of_ble_eq_true rfl) ?_ rfl
  have hC3 := hCT.2.2.1
  have hC6 := hCT.2.2.2.2.2.1
  have hC0 := hCT.1.1.1
  refine v_aload_n dX9_readLot_14 rfl ?_
  refine v_geti dX9_readLot_15 fr_X9_148 (by assumption) (by decide) rfl ?_
  refine v_if_ne (tgt := 42) dX9_readLot_18 (by decide) (fun h18 => ?_) (fun h18 => ?_)
  · exact v_eq M42 rfl rfl rfl rfl (by unfold rlB; first | exact (if_pos (by omega)).symm | exact (if_neg (by omega)).symm) rfl
  · refine v_aload_n dX9_readLot_21 rfl ?_
    refine v_geti dX9_readLot_22 fr_X9_165 (by assumption) (by decide) rfl ?_
    refine v_aload_n dX9_readLot_25 rfl ?_
    refine v_getr dX9_readLot_26 fr_X9_9 (by assumption) (by decide) rfl (by assumption) ?_
    refine v_iconst dX9_readLot_29 ?_
    refine v_iald (j := 0) dX9_readLot_30 (by assumption) (by first | rfl | omega) (by omega) ?_
    refine v_ic_ge (tgt := 42) dX9_readLot_31 (by decide) (fun h31 => ?_) (fun h31 => ?_)
    · exact v_eq M42 rfl rfl rfl rfl (by unfold rlB; first | exact (if_pos (by omega)).symm | exact (if_neg (by omega)).symm) rfl
    · refine v_aload_n dX9_readLot_34 rfl ?_
      refine v_aload_n dX9_readLot_35 rfl ?_
      refine v_geti dX9_readLot_36 fr_X9_145 (by assumption) (by decide) rfl ?_
      refine v_cV1n dX9_readLot_39 lk_X9_155 (by assumption) (by decide) rfl (k_wrongAt hfl hM hCT) (by decide) (Nat.le_of_ble_eq_true rfl) ?_ rfl
      exact v_eq M42 rfl rfl rfl rfl (by unfold rlB; first | exact (if_pos (by omega)).symm | exact (if_neg (by omega)).symm) rfl

set_option maxRecDepth 100000 in
set_option maxHeartbeats 4000000 in
theorem k_push {l : Launch} {g : GV} {S : SS} {I : II} {X : XX} {a : Nat} (hfl : l.stackTraces = false) (hM : isMod S) (ha9 : S.1[a]? = some (20, 265)) (hp : 0 ≤ I 508 3 ∧ I 508 3 ≤ 8) : CE l g mX9_push 1 [.ref 508, .ref a] S I X none (puM I a) := by
  obtain ⟨m0, ⟨p509, q509⟩, ⟨p510, q510⟩, ⟨p511, q511⟩, ⟨p512, q512⟩, ⟨p513, q513⟩, ⟨p514, q514⟩, ⟨p515, q515⟩, ⟨p516, q516⟩, ⟨p517, q517⟩, ⟨p518, q518⟩, ⟨p519, q519⟩, ⟨p520, q520⟩, ⟨p521, q521⟩, ⟨p522, q522⟩, ⟨p523, q523⟩, ⟨p524, q524⟩, ⟨p525, q525⟩, ⟨p526, q526⟩, ⟨p527, q527⟩, ⟨p528, q528⟩, ⟨p529, q529⟩, ⟨p530, q530⟩, ⟨p531, q531⟩, ⟨p532, q532⟩, ⟨p533, q533⟩, ⟨p534, q534⟩, ⟨p535, q535⟩, ⟨p536, q536⟩, ⟨p537, q537⟩, ⟨p538, q538⟩, ⟨p539, q539⟩, ⟨p540, q540⟩⟩ := id hM
  have hA : 0 ≤ puA I 508 3 ∧ puA I 508 3 ≤ 7 := by
    unfold puA
    split
    · rw [up_eq]; omega
    · omega
  obtain ⟨n, hn⟩ := Int.eq_ofNat_of_zero_le hA.1
  have M37 : V l g mX9_push 1 (Zm g (QE none S (puM I a) X)) 0 0 37 [some (.ref 508), some (.ref a)] [] S (puA I) X := by
    refine v_aload_n dX9_push_37 rfl ?_
    refine v_iconst dX9_push_38 ?_
    refine v_aload_n dX9_push_39 rfl ?_
    refine v_getr dX9_push_40 fr_X9_16 (by assumption) (by decide) rfl (by assumption) ?_
    refine v_sipush dX9_push_43 (by decide) ?_
    refine v_aload_n dX9_push_46 rfl ?_
    refine v_geti dX9_push_47 fr_X9_126 (by assumption) (by decide) rfl ?_
    refine v_imul dX9_push_50 ?_
    refine v_sipush dX9_push_51 (by decide) ?_
    rw [hn]
    refine v_copy (sp := 0) (dq := 265 * n) (n := 265) dX9_push_54 cy_X9_136 (by assumption) (by assumption) (by first | rfl | omega) (by omega) (by first | rfl | omega) (by omega) (by omega) (by decide) (Nat.le_of_ble_eq_true rfl) ?_
    refine v_aload_n dX9_push_57 rfl ?_
    refine v_dup dX9_push_58 rfl ?_
    refine v_geti dX9_push_59 fr_X9_126 (by assumption) (by decide) rfl ?_
    rw [cpy_ne (by omega)]
    refine v_iconst dX9_push_62 ?_
    refine v_iadd dX9_push_63 ?_
    refine v_puti dX9_push_64 fr_X9_126 (by assumption) (by decide) rfl ?_
    refine v_aload_n dX9_push_67 rfl ?_
    refine v_iconst dX9_push_68 ?_
    refine v_putz dX9_push_69 fr_X9_133 (by assumption) (by decide) rfl (by first | exact Or.inl rfl | exact Or.inr rfl | omega) ?_
    exact v_vE dX9_push_72 rfl (by unfold puM; rw [hn]; rfl)
  refine v_startE hfl rfl (by decide) (Nat.le_of_ble_eq_true rfl) (ls := [some (.ref 508), some (.ref a)]) rfl ?_
  refine v_aload_n dX9_push_0 rfl ?_
  refine v_geti dX9_push_1 fr_X9_126 (by assumption) (by decide) rfl ?_
  refine v_bipush dX9_push_4 (by decide) ?_
  refine v_ic_ne (tgt := 37) dX9_push_6 (by decide) (fun h6 => ?_) (fun h6 => ?_)
  · exact v_eq M37 rfl rfl rfl rfl (by unfold puA; first | exact (if_pos (by omega)).symm | exact (if_neg (by omega)).symm) rfl
  · refine v_aload_n dX9_push_9 rfl ?_
    refine v_getr dX9_push_10 fr_X9_16 (by assumption) (by decide) rfl (by assumption) ?_
    refine v_sipush dX9_push_13 (by decide) ?_
    refine v_aload_n dX9_push_16 rfl ?_
    refine v_getr dX9_push_17 fr_X9_16 (by assumption) (by decide) rfl (by assumption) ?_
    refine v_iconst dX9_push_20 ?_
    refine v_sipush dX9_push_21 (by decide) ?_
    refine v_copy (sp := 265) (dq := 0) (n := 1855) dX9_push_24 cy_X9_136 (by assumption) (by assumption) (by first | rfl | omega) (by first | rfl | omega) (by first | rfl | omega) (by omega) (by omega) (by decide) (Nat.le_of_ble_eq_true rfl) ?_
    refine v_aload_n dX9_push_27 rfl ?_
    refine v_dup dX9_push_28 rfl ?_
    refine v_geti dX9_push_29 fr_X9_126 (by assumption) (by decide) rfl ?_
    rw [cpy_ne (by omega)]
    refine v_iconst dX9_push_32 ?_
    refine v_isub dX9_push_33 ?_
    refine v_puti dX9_push_34 fr_X9_126 (by assumption) (by decide) rfl ?_
    exact v_eq M37 rfl rfl rfl rfl (by unfold puA; first | exact (if_pos (by omega)).symm | exact (if_neg (by omega)).symm) rfl

set_option maxRecDepth 100000 in
set_option maxHeartbeats 4000000 in
theorem k_exL9 {l : Launch} {g : GV} {S : SS} {X : XX} {Z : ZZ} {z : Int} {K : II} (hfl : l.stackTraces = false) (hM : isMod S) (kk : TX K → V l g mX9_execute 4 Z 0 0 120 [some (.ref 508), some (.int (ii z)), none] [] S K X) : ∀ (f k : Nat) (J : II), k + f ≤ 100 → exL f k J = some (z, K) → TX J → V l g mX9_execute 4 Z 0 0 28 [some (.ref 508), some (.int (ii (k : Int))), none] [] S J X := by
  obtain ⟨m0, ⟨p509, q509⟩, ⟨p510, q510⟩, ⟨p511, q511⟩, ⟨p512, q512⟩, ⟨p513, q513⟩, ⟨p514, q514⟩, ⟨p515, q515⟩, ⟨p516, q516⟩, ⟨p517, q517⟩, ⟨p518, q518⟩, ⟨p519, q519⟩, ⟨p520, q520⟩, ⟨p521, q521⟩, ⟨p522, q522⟩, ⟨p523, q523⟩, ⟨p524, q524⟩, ⟨p525, q525⟩, ⟨p526, q526⟩, ⟨p527, q527⟩, ⟨p528, q528⟩, ⟨p529, q529⟩, ⟨p530, q530⟩, ⟨p531, q531⟩, ⟨p532, q532⟩, ⟨p533, q533⟩, ⟨p534, q534⟩, ⟨p535, q535⟩, ⟨p536, q536⟩, ⟨p537, q537⟩, ⟨p538, q538⟩, ⟨p539, q539⟩, ⟨p540, q540⟩⟩ := id hM
  intro f
  induction f with
  | zero => intro k J hk hR hT; cases hR
  | succ f ih =>
    intro k J hk hR hT
    obtain ⟨t1, t2, t3, t4, t5, t6, t7⟩ := id hT
    have hMI := t1
    obtain ⟨w0, w1, w2, w3, w4, w5, w6, w7, w8, w9, w10⟩ := id hMI.1
    unfold exL at hR
    refine v_aload_n dX9_execute_28 rfl ?_
    refine v_geti dX9_execute_29 fr_X9_148 (by assumption) (by decide) rfl ?_
    refine v_if_ne (tgt := 120) dX9_execute_32 (by decide) (fun h32 => ?_) (fun h32 => ?_)
    · rw [if_neg (by omega)] at hR
      obtain ⟨rfl, rfl⟩ : (k : Int) = z ∧ J = K := by simpa using hR
      exact v_fgt2 (kk hT) (fgt_c (Or.inr rfl) (fgt_c (Or.inr rfl) (fgt_c (Or.inl rfl) (fgt_n))))
    · refine v_iload_n dX9_execute_35 rfl ?_
      refine v_if_eq (tgt := 50) dX9_execute_36 (by decide) (fun h36 => ?_) (fun h36 => ?_)
      · rw [if_pos (by omega)] at hR
        obtain ⟨C, hC, hR⟩ := Option.bind_eq_some_iff.mp hR
        have hTC := TX_cm hT hC
        have hh := hr_rng hT
        unfold cmO at hC
        refine v_aload_n dX9_execute_50 rfl ?_
        refine v_cV0 dX9_execute_51 lk_X9_151 (by assumption) (by decide) rfl (k_here hfl hM hT) (by decide) (Nat.le_of_ble_eq_true rfl) ?_ rfl
        refine v_istn2 dX9_execute_54 rfl ?_
        refine v_iload_n dX9_execute_55 rfl ?_
        refine v_bipush dX9_execute_56 (by decide) ?_
        refine v_bipush dX9_execute_58 (by decide) ?_
        refine v_cS3 dX9_execute_60 lk_X9_118 (k_in hfl (by omega) (by omega) (by omega)) (by decide) (Nat.le_of_ble_eq_true rfl) ?_ rfl
        have hi := inF_01 (hrM J) 48 57
        have hi1 := @inF_1 (hrM J) 48 57
        refine v_if_eq (tgt := 73) dX9_execute_63 (by decide) (fun h63 => ?_) (fun h63 => ?_)
        · rw [if_neg (by omega)] at hC
          refine v_iload_n dX9_execute_73 rfl ?_
          refine v_bipush dX9_execute_74 (by decide) ?_
          refine v_ic_eq (tgt := 85) dX9_execute_76 (by decide) (fun h76 => ?_) (fun h76 => ?_)
          · refine v_aload_n dX9_execute_85 rfl ?_
            refine v_iload_n dX9_execute_86 rfl ?_
            rw [if_pos (by omega)] at hC
            obtain rfl : rcN J = C := by simpa using hC
            rw [show hrM J = 35 by omega]
            refine v_cV1n dX9_execute_87 lk_X9_186 (by assumption) (by decide) rfl (k_readSize hfl hM hT (by omega)) (by decide) (Nat.le_of_ble_eq_true rfl) ?_ rfl
            refine v_goto (tgt := 114) dX9_execute_90 (by decide) ?_
            refine v_iinc1 dX9_execute_114 rfl ?_
            refine v_goto (tgt := 28) dX9_execute_117 (by decide) ?_
            exact v_fgt2 (ih (k + 1) _ (by omega) hR hTC) (fgt_c (Or.inr rfl) (fgt_c (Or.inr rfl) (fgt_c (Or.inl rfl) (fgt_n))))
          · refine v_iload_n dX9_execute_79 rfl ?_
            refine v_bipush dX9_execute_80 (by decide) ?_
            refine v_ic_ne (tgt := 93) dX9_execute_82 (by decide) (fun h82 => ?_) (fun h82 => ?_)
            · refine v_iload_n dX9_execute_93 rfl ?_
              refine v_bipush dX9_execute_94 (by decide) ?_
              refine v_ic_ne (tgt := 106) dX9_execute_96 (by decide) (fun h96 => ?_) (fun h96 => ?_)
              · rw [if_neg (by omega), if_neg (by omega), if_neg (by omega)] at hC
                obtain rfl : wgM J (J 508 9) = C := by simpa using hC
                refine v_aload_n dX9_execute_106 rfl ?_
                refine v_aload_n dX9_execute_107 rfl ?_
                refine v_geti dX9_execute_108 fr_X9_145 (by assumption) (by decide) rfl ?_
                refine v_cV1n dX9_execute_111 lk_X9_155 (by assumption) (by decide) rfl (k_wrongAt hfl hM hT) (by decide) (Nat.le_of_ble_eq_true rfl) ?_ rfl
                refine v_iinc1 dX9_execute_114 rfl ?_
                refine v_goto (tgt := 28) dX9_execute_117 (by decide) ?_
                exact v_fgt2 (ih (k + 1) _ (by omega) hR hTC) (fgt_c (Or.inr rfl) (fgt_c (Or.inr rfl) (fgt_c (Or.inl rfl) (fgt_n))))
              · rw [if_neg (by omega), if_neg (by omega), if_pos (by omega)] at hC
                refine v_aload_n dX9_execute_99 rfl ?_
                refine v_cV0n dX9_execute_100 lk_X9_189 (by assumption) (by decide) rfl (k_readLot hfl hM hT (by omega) hC) (by decide) (Nat.le_of_ble_eq_true rfl) ?_ rfl
                refine v_goto (tgt := 114) dX9_execute_103 (by decide) ?_
                refine v_iinc1 dX9_execute_114 rfl ?_
                refine v_goto (tgt := 28) dX9_execute_117 (by decide) ?_
                exact v_fgt2 (ih (k + 1) _ (by omega) hR hTC) (fgt_c (Or.inr rfl) (fgt_c (Or.inr rfl) (fgt_c (Or.inl rfl) (fgt_n))))
            · refine v_aload_n dX9_execute_85 rfl ?_
              refine v_iload_n dX9_execute_86 rfl ?_
              rw [if_neg (by omega), if_pos (by omega)] at hC
              rw [show hrM J = 126 by omega]
              refine v_cV1n dX9_execute_87 lk_X9_186 (by assumption) (by decide) rfl (k_readRepl hfl hM hT (by omega) hC) (by decide) (Nat.le_of_ble_eq_true rfl) ?_ rfl
              refine v_goto (tgt := 114) dX9_execute_90 (by decide) ?_
              refine v_iinc1 dX9_execute_114 rfl ?_
              refine v_goto (tgt := 28) dX9_execute_117 (by decide) ?_
              exact v_fgt2 (ih (k + 1) _ (by omega) hR hTC) (fgt_c (Or.inr rfl) (fgt_c (Or.inr rfl) (fgt_c (Or.inl rfl) (fgt_n))))
        · rw [if_pos (by omega)] at hC
          refine v_aload_n dX9_execute_66 rfl ?_
          refine v_cV0n dX9_execute_67 lk_X9_183 (by assumption) (by decide) rfl (k_readPile hfl hM hT hC) (by decide) (Nat.le_of_ble_eq_true rfl) ?_ rfl
          refine v_goto (tgt := 114) dX9_execute_70 (by decide) ?_
          refine v_iinc1 dX9_execute_114 rfl ?_
          refine v_goto (tgt := 28) dX9_execute_117 (by decide) ?_
          exact v_fgt2 (ih (k + 1) _ (by omega) hR hTC) (fgt_c (Or.inr rfl) (fgt_c (Or.inr rfl) (fgt_c (Or.inl rfl) (fgt_n))))
      · refine v_aload_n dX9_execute_39 rfl ?_
        refine v_geti dX9_execute_40 fr_X9_145 (by assumption) (by decide) rfl ?_
        refine v_aload_n dX9_execute_43 rfl ?_
        refine v_geti dX9_execute_44 fr_X9_142 (by assumption) (by decide) rfl ?_
        refine v_ic_ge (tgt := 120) dX9_execute_47 (by decide) (fun h47 => ?_) (fun h47 => ?_)
        · rw [if_neg (by omega)] at hR
          obtain ⟨rfl, rfl⟩ : (k : Int) = z ∧ J = K := by simpa using hR
          exact v_fgt2 (kk hT) (fgt_c (Or.inr rfl) (fgt_c (Or.inr rfl) (fgt_c (Or.inl rfl) (fgt_n))))
        · rw [if_pos (by omega)] at hR
          obtain ⟨C, hC, hR⟩ := Option.bind_eq_some_iff.mp hR
          have hTC := TX_cm hT hC
          have hh := hr_rng hT
          unfold cmO at hC
          refine v_aload_n dX9_execute_50 rfl ?_
          refine v_cV0 dX9_execute_51 lk_X9_151 (by assumption) (by decide) rfl (k_here hfl hM hT) (by decide) (Nat.le_of_ble_eq_true rfl) ?_ rfl
          refine v_istn2 dX9_execute_54 rfl ?_
          refine v_iload_n dX9_execute_55 rfl ?_
          refine v_bipush dX9_execute_56 (by decide) ?_
          refine v_bipush dX9_execute_58 (by decide) ?_
          refine v_cS3 dX9_execute_60 lk_X9_118 (k_in hfl (by omega) (by omega) (by omega)) (by decide) (Nat.le_of_ble_eq_true rfl) ?_ rfl
          have hi := inF_01 (hrM J) 48 57
          have hi1 := @inF_1 (hrM J) 48 57
          refine v_if_eq (tgt := 73) dX9_execute_63 (by decide) (fun h63 => ?_) (fun h63 => ?_)
          · rw [if_neg (by omega)] at hC
            refine v_iload_n dX9_execute_73 rfl ?_
            refine v_bipush dX9_execute_74 (by decide) ?_
            refine v_ic_eq (tgt := 85) dX9_execute_76 (by decide) (fun h76 => ?_) (fun h76 => ?_)
            · refine v_aload_n dX9_execute_85 rfl ?_
              refine v_iload_n dX9_execute_86 rfl ?_
              rw [if_pos (by omega)] at hC
              obtain rfl : rcN J = C := by simpa using hC
              rw [show hrM J = 35 by omega]
              refine v_cV1n dX9_execute_87 lk_X9_186 (by assumption) (by decide) rfl (k_readSize hfl hM hT (by omega)) (by decide) (Nat.le_of_ble_eq_true rfl) ?_ rfl
              refine v_goto (tgt := 114) dX9_execute_90 (by decide) ?_
              refine v_iinc1 dX9_execute_114 rfl ?_
              refine v_goto (tgt := 28) dX9_execute_117 (by decide) ?_
              exact v_fgt2 (ih (k + 1) _ (by omega) hR hTC) (fgt_c (Or.inr rfl) (fgt_c (Or.inr rfl) (fgt_c (Or.inl rfl) (fgt_n))))
            · refine v_iload_n dX9_execute_79 rfl ?_
              refine v_bipush dX9_execute_80 (by decide) ?_
              refine v_ic_ne (tgt := 93) dX9_execute_82 (by decide) (fun h82 => ?_) (fun h82 => ?_)
              · refine v_iload_n dX9_execute_93 rfl ?_
                refine v_bipush dX9_execute_94 (by decide) ?_
                refine v_ic_ne (tgt := 106) dX9_execute_96 (by decide) (fun h96 => ?_) (fun h96 => ?_)
                · rw [if_neg (by omega), if_neg (by omega), if_neg (by omega)] at hC
                  obtain rfl : wgM J (J 508 9) = C := by simpa using hC
                  refine v_aload_n dX9_execute_106 rfl ?_
                  refine v_aload_n dX9_execute_107 rfl ?_
                  refine v_geti dX9_execute_108 fr_X9_145 (by assumption) (by decide) rfl ?_
                  refine v_cV1n dX9_execute_111 lk_X9_155 (by assumption) (by decide) rfl (k_wrongAt hfl hM hT) (by decide) (Nat.le_of_ble_eq_true rfl) ?_ rfl
                  refine v_iinc1 dX9_execute_114 rfl ?_
                  refine v_goto (tgt := 28) dX9_execute_117 (by decide) ?_
                  exact v_fgt2 (ih (k + 1) _ (by omega) hR hTC) (fgt_c (Or.inr rfl) (fgt_c (Or.inr rfl) (fgt_c (Or.inl rfl) (fgt_n))))
                · rw [if_neg (by omega), if_neg (by omega), if_pos (by omega)] at hC
                  refine v_aload_n dX9_execute_99 rfl ?_
                  refine v_cV0n dX9_execute_100 lk_X9_189 (by assumption) (by decide) rfl (k_readLot hfl hM hT (by omega) hC) (by decide) (Nat.le_of_ble_eq_true rfl) ?_ rfl
                  refine v_goto (tgt := 114) dX9_execute_103 (by decide) ?_
                  refine v_iinc1 dX9_execute_114 rfl ?_
                  refine v_goto (tgt := 28) dX9_execute_117 (by decide) ?_
                  exact v_fgt2 (ih (k + 1) _ (by omega) hR hTC) (fgt_c (Or.inr rfl) (fgt_c (Or.inr rfl) (fgt_c (Or.inl rfl) (fgt_n))))
              · refine v_aload_n dX9_execute_85 rfl ?_
                refine v_iload_n dX9_execute_86 rfl ?_
                rw [if_neg (by omega), if_pos (by omega)] at hC
                rw [show hrM J = 126 by omega]
                refine v_cV1n dX9_execute_87 lk_X9_186 (by assumption) (by decide) rfl (k_readRepl hfl hM hT (by omega) hC) (by decide) (Nat.le_of_ble_eq_true rfl) ?_ rfl
                refine v_goto (tgt := 114) dX9_execute_90 (by decide) ?_
                refine v_iinc1 dX9_execute_114 rfl ?_
                refine v_goto (tgt := 28) dX9_execute_117 (by decide) ?_
                exact v_fgt2 (ih (k + 1) _ (by omega) hR hTC) (fgt_c (Or.inr rfl) (fgt_c (Or.inr rfl) (fgt_c (Or.inl rfl) (fgt_n))))
          · rw [if_pos (by omega)] at hC
            refine v_aload_n dX9_execute_66 rfl ?_
            refine v_cV0n dX9_execute_67 lk_X9_183 (by assumption) (by decide) rfl (k_readPile hfl hM hT hC) (by decide) (Nat.le_of_ble_eq_true rfl) ?_ rfl
            refine v_goto (tgt := 114) dX9_execute_70 (by decide) ?_
            refine v_iinc1 dX9_execute_114 rfl ?_
            refine v_goto (tgt := 28) dX9_execute_117 (by decide) ?_
            exact v_fgt2 (ih (k + 1) _ (by omega) hR hTC) (fgt_c (Or.inr rfl) (fgt_c (Or.inr rfl) (fgt_c (Or.inl rfl) (fgt_n))))

theorem wg_3 {J : II} {w : Int} : wgM J w 508 3 = J 508 3 := wg_f (by omega) (by omega)
theorem wt_f {J : II} {s : Int} {k : Nat} (h9 : k ≠ 9) (h10 : k ≠ 10) : wtM J s 508 k = J 508 k := by
  have e : wtI J s 508 k = J 508 k := by
    unfold wtI
    split
    · rfl
    · exact wg_f h9 h10
  unfold wtM
  split
  · exact (pc_f h9).trans e
  · exact e
theorem kp_f {J : II} {k : Nat} (h9 : k ≠ 9) (h10 : k ≠ 10) : (kpR J).2 508 k = J 508 k := by
  unfold kpR
  split
  · exact (wg_f h9 h10).trans (nu_f h9 h10)
  · exact nu_f h9 h10
theorem rrN_f {J : II} {k : Nat} (h9 : k ≠ 9) (h13 : k ≠ 13) : rrN J 508 k = J 508 k := by
  unfold rrN
  rw [pc_f h9, up_nk h13, up_ne (by omega)]
theorem rrL_f {K : II} {k : Nat} (h9 : k ≠ 9) (h10 : k ≠ 10) (h13 : k ≠ 13) : ∀ (f s : Nat) (J : II), rrL f s J = some K → K 508 k = J 508 k
  | 0, _, _, h => by cases h
  | f + 1, s, J, h => by
    unfold rrL at h
    split at h
    · obtain rfl : J = K := by simpa using h
      rfl
    · split at h
      · split at h
        · obtain rfl : wgM J (J 508 9) = K := by simpa using h
          exact wg_f h9 h10
        · exact (rrL_f h9 h10 h13 f s _ h).trans (wg_f h9 h10)
      · split at h
        · split at h
          · obtain rfl : rrN J = K := by simpa using h
            exact rrN_f h9 h13
          · exact (rrL_f h9 h10 h13 f _ _ h).trans (rrN_f h9 h13)
        · cases h
theorem rr_f {J K : II} {k : Nat} (h9 : k ≠ 9) (h10 : k ≠ 10) (h13 : k ≠ 13) (h : rrO J = some K) : K 508 k = J 508 k := (rrL_f h9 h10 h13 _ _ _ h).trans (up_nk h13)
theorem cm_f {J K : II} {k : Nat} (h9 : k ≠ 9) (h10 : k ≠ 10) (h13 : k ≠ 13) (hK : cmO J = some K) : K 508 k = J 508 k := by
  unfold cmO at hK
  split at hK
  · unfold rpO at hK
    obtain ⟨C, hC, rfl⟩ := Option.map_eq_some_iff.mp hK
    have e : wtM C 59 508 k = J 508 k := by
      rw [wt_f h9 h10, rr_f h9 h10 h13 hC]
      unfold rpB
      rw [wt_f h9 h10, nu_f h9 h10]
      unfold rpA
      split
      · exact wg_f h9 h10
      · rfl
    split
    · unfold rpE
      rw [up_ne (by omega), sr_e (by omega), up_ne (by omega)]
      exact e
    · exact e
  · split at hK
    · obtain rfl : rcN J = K := by simpa using hK
      have e : rcB J 508 k = J 508 k := by
        unfold rcB rcA
        rw [wt_f h9 h10, nu_f h9 h10, wt_f h9 h10, kp_f h9 h10, pc_f h9]
      unfold rcN
      split
      · rw [up_ne (by omega)]
        exact e
      · exact e
    · split at hK
      · unfold rcR9 at hK
        obtain ⟨C, hC, rfl⟩ := Option.map_eq_some_iff.mp hK
        have e : wtM C 59 508 k = J 508 k := by
          rw [wt_f h9 h10, rr_f h9 h10 h13 hC, wt_f h9 h10, kp_f h9 h10, pc_f h9]
        split
        · rw [sr_e (by omega)]
          exact e
        · exact e
      · split at hK
        · unfold rlO at hK
          obtain ⟨C, hC, rfl⟩ := Option.map_eq_some_iff.mp hK
          have e : wtM (rlB C) 59 508 k = J 508 k := by
            rw [wt_f h9 h10]
            have : rlB C 508 k = C 508 k := by
              unfold rlB
              split
              · exact wg_f h9 h10
              · rfl
            rw [this, rr_f h9 h10 h13 hC, pc_f h9]
          unfold rlE
          split
          · rw [cpy_ne (by omega)]
            exact e
          · exact e
        · obtain rfl : wgM J (J 508 9) = K := by simpa using hK
          exact wg_f h9 h10
theorem ex_f {K : II} {z : Int} {j : Nat} (h9 : j ≠ 9) (h10 : j ≠ 10) (h13 : j ≠ 13) : ∀ (f k : Nat) (J : II), exL f k J = some (z, K) → K 508 j = J 508 j
  | 0, _, _, h => by cases h
  | f + 1, k, J, h => by
    unfold exL at h
    split at h
    · obtain ⟨J2, h1, h2⟩ := Option.bind_eq_some_iff.mp h
      exact (ex_f h9 h10 h13 f (k + 1) J2 h2).trans (cm_f h9 h10 h13 h1)
    · have h2 : ((k : Int), J) = (z, K) := by simpa using h
      obtain rfl : J = K := congrArg Prod.snd h2
      rfl
theorem ex_3 {K : II} {z : Int} (f k : Nat) (J : II) (h : exL f k J = some (z, K)) (_ : TX J) : K 508 3 = J 508 3 := ex_f (by omega) (by omega) (by omega) f k J h

set_option maxRecDepth 100000 in
set_option maxHeartbeats 4000000 in
theorem k_execute {l : Launch} {g : GV} {S : SS} {I : II} {X : XX} {K : II} {z : Int} (hfl : l.stackTraces = false) (hM : isMod S) (hB : TB I) (hp : 0 ≤ I 508 3 ∧ I 508 3 ≤ 8) (hK : xeO I = some (z, K)) : CE l g mX9_execute 4 [.ref 508] S I X (some (.int (ii (z)))) K := by
  obtain ⟨m0, ⟨p509, q509⟩, ⟨p510, q510⟩, ⟨p511, q511⟩, ⟨p512, q512⟩, ⟨p513, q513⟩, ⟨p514, q514⟩, ⟨p515, q515⟩, ⟨p516, q516⟩, ⟨p517, q517⟩, ⟨p518, q518⟩, ⟨p519, q519⟩, ⟨p520, q520⟩, ⟨p521, q521⟩, ⟨p522, q522⟩, ⟨p523, q523⟩, ⟨p524, q524⟩, ⟨p525, q525⟩, ⟨p526, q526⟩, ⟨p527, q527⟩, ⟨p528, q528⟩, ⟨p529, q529⟩, ⟨p530, q530⟩, ⟨p531, q531⟩, ⟨p532, q532⟩, ⟨p533, q533⟩, ⟨p534, q534⟩, ⟨p535, q535⟩, ⟨p536, q536⟩, ⟨p537, q537⟩, ⟨p538, q538⟩, ⟨p539, q539⟩, ⟨p540, q540⟩⟩ := id hM
  have main : ∀ (z : Int) (K : II), exL 62 0 (exB I) = some (z, K) → CE l g mX9_execute 4 [.ref 508] S I X (some (.int (ii (if K 508 10 = 0 then (z, puM (exT K) 510) else (0, cpy (exT K) 510 509 0 0 265)).1))) (if K 508 10 = 0 then (z, puM (exT K) 510) else (0, cpy (exT K) 510 509 0 0 265)).2 := by
    intro z K hL
    have hKT := TX_ex _ _ _ hL (TX_B hB)
    have hK3 := hKT.2.2.1
    have hp3 : 0 ≤ K 508 3 ∧ K 508 3 ≤ 8 := by rw [ex_3 _ _ _ hL (TX_B hB)]; unfold exB; rw [up_nk (by omega), up_nk (by omega), cpy_ne (by omega)]; exact hp
    have M160 : V l g mX9_execute 4 (Zm g (QE (some (.int (ii (if K 508 10 = 0 then (z, puM (exT K) 510) else (0, cpy (exT K) 510 509 0 0 265)).1))) S (if K 508 10 = 0 then (z, puM (exT K) 510) else (0, cpy (exT K) 510 509 0 0 265)).2 X)) 0 0 160 [some (.ref 508), some (.int (ii z)), none] [] S (exT K) X := by
      refine v_aload_n dX9_execute_160 rfl ?_
      refine v_geti dX9_execute_161 fr_X9_115 (by assumption) (by decide) rfl ?_
      rw [show exT K 508 6 = (if K 508 10 = 0 then 0 else 1) from up_eq]
      have hz6 : (if K 508 10 = 0 then (0 : Int) else 1) = 0 ∨ (if K 508 10 = 0 then (0 : Int) else 1) = 1 := by split <;> omega
      refine v_if_le (tgt := 185) dX9_execute_164 (by decide) (fun h164 => ?_) (fun h164 => ?_)
      · refine v_aload_n dX9_execute_185 rfl ?_
        refine v_aload_n dX9_execute_186 rfl ?_
        refine v_getr dX9_execute_187 fr_X9_13 (by assumption) (by decide) rfl (by assumption) ?_
        refine v_callV (As := [.ref 510]) (Q2 := QE none S (puM (exT K) 510) X) dX9_execute_190 lk_X9_192 rfl rfl (by assumption) (by decide) rfl (k_push hfl hM (by assumption) (by unfold exT; rw [up_nk (by omega), up_nk (by omega), up_nk (by omega)]; exact hp3)) (by decide) (Nat.le_of_ble_eq_true rfl) (fun _ _ _ _ => qe_no) (fun _ _ _ _ h => qe_ex h) (Nat.zero_add _).symm (Nat.zero_add _).symm (fun u S3 I3 X3 h => ?_)
        obtain ⟨h1, rfl, rfl, rfl⟩ := h
        cases h1
        show V l g mX9_execute 4 _ 0 0 193 _ [] _ _ _
        refine v_iload_n dX9_execute_193 rfl ?_
        exact v_iE dX9_execute_194 rfl (by rw [if_pos (by split at h164 <;> omega)]) (by rw [if_pos (by split at h164 <;> omega)])
      · refine v_aload_n dX9_execute_167 rfl ?_
        refine v_getr dX9_execute_168 fr_X9_13 (by assumption) (by decide) rfl (by assumption) ?_
        refine v_iconst dX9_execute_171 ?_
        refine v_aload_n dX9_execute_172 rfl ?_
        refine v_getr dX9_execute_173 fr_X9_9 (by assumption) (by decide) rfl (by assumption) ?_
        refine v_iconst dX9_execute_176 ?_
        refine v_sipush dX9_execute_177 (by decide) ?_
        refine v_copy (sp := 0) (dq := 0) (n := 265) dX9_execute_180 cy_X9_136 (by assumption) (by assumption) (by first | rfl | omega) (by first | rfl | omega) (by first | rfl | omega) (by omega) (by omega) (by decide) (Nat.le_of_ble_eq_true rfl) ?_
        refine v_iconst dX9_execute_183 ?_
        exact v_iE dX9_execute_184 rfl (by rw [if_neg (by split at h164 <;> omega)]) (by rw [if_neg (by split at h164 <;> omega)])
    refine v_startE hfl rfl (by decide) (Nat.le_of_ble_eq_true rfl) (ls := [some (.ref 508), none, none]) rfl ?_
    refine v_aload_n dX9_execute_0 rfl ?_
    refine v_getr dX9_execute_1 fr_X9_9 (by assumption) (by decide) rfl (by assumption) ?_
    refine v_iconst dX9_execute_4 ?_
    refine v_aload_n dX9_execute_5 rfl ?_
    refine v_getr dX9_execute_6 fr_X9_13 (by assumption) (by decide) rfl (by assumption) ?_
    refine v_iconst dX9_execute_9 ?_
    refine v_sipush dX9_execute_10 (by decide) ?_
    refine v_copy (sp := 0) (dq := 0) (n := 265) dX9_execute_13 cy_X9_136 (by assumption) (by assumption) (by first | rfl | omega) (by first | rfl | omega) (by first | rfl | omega) (by omega) (by omega) (by decide) (Nat.le_of_ble_eq_true rfl) ?_
    refine v_aload_n dX9_execute_16 rfl ?_
    refine v_iconst dX9_execute_17 ?_
    refine v_puti dX9_execute_18 fr_X9_145 (by assumption) (by decide) rfl ?_
    refine v_aload_n dX9_execute_21 rfl ?_
    refine v_iconst dX9_execute_22 ?_
    refine v_putz dX9_execute_23 fr_X9_148 (by assumption) (by decide) rfl (by first | exact Or.inl rfl | exact Or.inr rfl | omega) ?_
    refine v_iconst dX9_execute_26 ?_
    refine v_istn1 dX9_execute_27 rfl ?_
    refine k_exL9 hfl hM (fun _ => ?_) 62 0 _ (by omega) hL (TX_B hB)
    refine v_aload_n dX9_execute_120 rfl ?_
    refine v_iconst dX9_execute_121 ?_
    refine v_puti dX9_execute_122 fr_X9_142 (by assumption) (by decide) rfl ?_
    refine v_aload_n dX9_execute_125 rfl ?_
    refine v_aload_n dX9_execute_126 rfl ?_
    refine v_geti dX9_execute_127 fr_X9_148 (by assumption) (by decide) rfl ?_
    rw [up_nk (by omega)]
    refine v_if_eq (tgt := 140) dX9_execute_130 (by decide) (fun h130 => ?_) (fun h130 => ?_)
    · refine v_iconst dX9_execute_140 ?_
      refine v_puti dX9_execute_141 fr_X9_25 (by assumption) (by decide) rfl ?_
      refine v_aload_n dX9_execute_144 rfl ?_
      refine v_aload_n dX9_execute_145 rfl ?_
      refine v_geti dX9_execute_146 fr_X9_148 (by assumption) (by decide) rfl ?_
      rw [up_nk (by omega), up_nk (by omega)]
      refine v_if_eq (tgt := 156) dX9_execute_149 (by decide) (fun h149 => ?_) (fun h149 => ?_)
      · refine v_iconst dX9_execute_156 ?_
        refine v_puti dX9_execute_157 fr_X9_115 (by assumption) (by decide) rfl ?_
        first
          | (exfalso; omega)
          | exact v_eq M160 rfl rfl rfl rfl (by unfold exT; first | rw [if_pos (by omega), if_pos (by omega)] | rw [if_neg (by omega), if_neg (by omega)]) rfl
      · refine v_iconst dX9_execute_152 ?_
        refine v_goto (tgt := 157) dX9_execute_153 (by decide) ?_
        refine v_puti dX9_execute_157 fr_X9_115 (by assumption) (by decide) rfl ?_
        first
          | (exfalso; omega)
          | exact v_eq M160 rfl rfl rfl rfl (by unfold exT; first | rw [if_pos (by omega), if_pos (by omega)] | rw [if_neg (by omega), if_neg (by omega)]) rfl
    · refine v_aload_n dX9_execute_133 rfl ?_
      refine v_geti dX9_execute_134 fr_X9_145 (by assumption) (by decide) rfl ?_
      rw [up_nk (by omega)]
      refine v_goto (tgt := 141) dX9_execute_137 (by decide) ?_
      refine v_puti dX9_execute_141 fr_X9_25 (by assumption) (by decide) rfl ?_
      refine v_aload_n dX9_execute_144 rfl ?_
      refine v_aload_n dX9_execute_145 rfl ?_
      refine v_geti dX9_execute_146 fr_X9_148 (by assumption) (by decide) rfl ?_
      rw [up_nk (by omega), up_nk (by omega)]
      refine v_if_eq (tgt := 156) dX9_execute_149 (by decide) (fun h149 => ?_) (fun h149 => ?_)
      · refine v_iconst dX9_execute_156 ?_
        refine v_puti dX9_execute_157 fr_X9_115 (by assumption) (by decide) rfl ?_
        first
          | (exfalso; omega)
          | exact v_eq M160 rfl rfl rfl rfl (by unfold exT; first | rw [if_pos (by omega), if_pos (by omega)] | rw [if_neg (by omega), if_neg (by omega)]) rfl
      · refine v_iconst dX9_execute_152 ?_
        refine v_goto (tgt := 157) dX9_execute_153 (by decide) ?_
        refine v_puti dX9_execute_157 fr_X9_115 (by assumption) (by decide) rfl ?_
        first
          | (exfalso; omega)
          | exact v_eq M160 rfl rfl rfl rfl (by unfold exT; first | rw [if_pos (by omega), if_pos (by omega)] | rw [if_neg (by omega), if_neg (by omega)]) rfl
  unfold xeO at hK
  obtain ⟨⟨z1, K1⟩, hL, h9⟩ := Option.map_eq_some_iff.mp hK
  have h8 := main z1 K1 hL
  replace h9 : (if K1 508 10 = 0 then (z1, puM (exT K1) 510) else (0, cpy (exT K1) 510 509 0 0 265)) = (z, K) := h9
  rw [h9] at h8
  exact h8
