/-! THE LAW: its beginning, its loop -/
theorem and31 (x : Int32) : 0 ≤ (x &&& ii 31).toInt ∧ (x &&& ii 31).toInt ≤ 31 := by
  have h : (x &&& ii 31).toInt = ((x.toBitVec.toNat &&& 31 : Nat) : Int) := by
    show (x.toBitVec &&& 31#32).toInt = _
    have h1 : (x.toBitVec &&& 31#32).toNat = x.toBitVec.toNat &&& 31 := BitVec.toNat_and _ _
    have h2 : x.toBitVec.toNat &&& 31 ≤ 31 := Nat.and_le_right
    rw [BitVec.toInt_eq_toNat_of_lt (by rw [h1]; omega), h1]
  have h2 : x.toBitVec.toNat &&& 31 ≤ 31 := Nat.and_le_right
  omega
theorem LC_xb {S S2 : SS} (h : LC S (fun k => 203 + 31 * k)) (hX : XB S S2 508) : LC S2 (fun k => 203 + 31 * k) := by
  obtain ⟨m0, p0, p1, p2, p3, p4, p5, p6, p7, p8, p9, hE1, hE2, hC1, hC2, hT, hH, hR1, hE3, hR2⟩ := h
  have hq : Xq S S2 999 508 := hX.xq
  have z := hX 0 (by omega)
  exact ⟨z.1.trans m0, (z.2 0).trans p0, (z.2 1).trans p1, (z.2 2).trans p2, (z.2 3).trans p3, (z.2 4).trans p4, (z.2 5).trans p5, (z.2 6).trans p6, (z.2 7).trans p7, (z.2 8).trans p8, (z.2 9).trans p9, isEl_x hE1 hq (by omega) (by omega), isEl_x hE2 hq (by omega) (by omega), isCnt_x hC1 hq (by omega) (by omega) (by omega), isCnt_x hC2 hq (by omega) (by omega) (by omega), isTxt_x hT hq (by omega) (by omega), isHis_x (h := 201) hH hq (by omega) (by omega), isRes_x hR1 hq (by omega) (by omega), isEl_x hE3 hq (by omega) (by omega), isRes_x hR2 hq (by omega) (by omega)⟩
set_option maxRecDepth 100000 in
set_option maxHeartbeats 4000000 in
theorem isMod_xb {S S2 : SS} (h : isMod S) (hX : XB S S2 541) : isMod S2 := by
  obtain ⟨m0, ⟨p509, q509⟩, ⟨p510, q510⟩, ⟨p511, q511⟩, ⟨p512, q512⟩, ⟨p513, q513⟩, ⟨p514, q514⟩, ⟨p515, q515⟩, ⟨p516, q516⟩, ⟨p517, q517⟩, ⟨p518, q518⟩, ⟨p519, q519⟩, ⟨p520, q520⟩, ⟨p521, q521⟩, ⟨p522, q522⟩, ⟨p523, q523⟩, ⟨p524, q524⟩, ⟨p525, q525⟩, ⟨p526, q526⟩, ⟨p527, q527⟩, ⟨p528, q528⟩, ⟨p529, q529⟩, ⟨p530, q530⟩, ⟨p531, q531⟩, ⟨p532, q532⟩, ⟨p533, q533⟩, ⟨p534, q534⟩, ⟨p535, q535⟩, ⟨p536, q536⟩, ⟨p537, q537⟩, ⟨p538, q538⟩, ⟨p539, q539⟩, ⟨p540, q540⟩⟩ := h
  have z := hX 508 (by omega)
  exact ⟨z.1.trans m0, ⟨(z.2 0).trans p509, (hX 509 (by omega)).1.trans q509⟩, ⟨(z.2 1).trans p510, (hX 510 (by omega)).1.trans q510⟩, ⟨(z.2 2).trans p511, (hX 511 (by omega)).1.trans q511⟩, ⟨(z.2 4).trans p512, (hX 512 (by omega)).1.trans q512⟩, ⟨(z.2 7).trans p513, (hX 513 (by omega)).1.trans q513⟩, ⟨(z.2 12).trans p514, (hX 514 (by omega)).1.trans q514⟩, ⟨(z.2 16).trans p515, (hX 515 (by omega)).1.trans q515⟩, ⟨(z.2 17).trans p516, (hX 516 (by omega)).1.trans q516⟩, ⟨(z.2 18).trans p517, (hX 517 (by omega)).1.trans q517⟩, ⟨(z.2 19).trans p518, (hX 518 (by omega)).1.trans q518⟩, ⟨(z.2 20).trans p519, (hX 519 (by omega)).1.trans q519⟩, ⟨(z.2 21).trans p520, (hX 520 (by omega)).1.trans q520⟩, ⟨(z.2 22).trans p521, (hX 521 (by omega)).1.trans q521⟩, ⟨(z.2 23).trans p522, (hX 522 (by omega)).1.trans q522⟩, ⟨(z.2 24).trans p523, (hX 523 (by omega)).1.trans q523⟩, ⟨(z.2 25).trans p524, (hX 524 (by omega)).1.trans q524⟩, ⟨(z.2 26).trans p525, (hX 525 (by omega)).1.trans q525⟩, ⟨(z.2 27).trans p526, (hX 526 (by omega)).1.trans q526⟩, ⟨(z.2 28).trans p527, (hX 527 (by omega)).1.trans q527⟩, ⟨(z.2 29).trans p528, (hX 528 (by omega)).1.trans q528⟩, ⟨(z.2 30).trans p529, (hX 529 (by omega)).1.trans q529⟩, ⟨(z.2 31).trans p530, (hX 530 (by omega)).1.trans q530⟩, ⟨(z.2 33).trans p531, (hX 531 (by omega)).1.trans q531⟩, ⟨(z.2 34).trans p532, (hX 532 (by omega)).1.trans q532⟩, ⟨(z.2 35).trans p533, (hX 533 (by omega)).1.trans q533⟩, ⟨(z.2 36).trans p534, (hX 534 (by omega)).1.trans q534⟩, ⟨(z.2 37).trans p535, (hX 535 (by omega)).1.trans q535⟩, ⟨(z.2 38).trans p536, (hX 536 (by omega)).1.trans q536⟩, ⟨(z.2 46).trans p537, (hX 537 (by omega)).1.trans q537⟩, ⟨(z.2 47).trans p538, (hX 538 (by omega)).1.trans q538⟩, ⟨(z.2 48).trans p539, (hX 539 (by omega)).1.trans q539⟩, ⟨(z.2 49).trans p540, (hX 540 (by omega)).1.trans q540⟩⟩

def Z0 : II := fun _ _ => 0
def I6 : II := (stM (up (up (startM (hisM (up (startM (startM (startM Z0 1 3 1) 32 3 1) 63 3 1) 198 5 (-1)) 201 8) 464 3 1) 508 11 (-1)) 509 6 1) 3)
theorem rg_Z0 : RG Z0 := fun a k => by show -2147483648 ≤ (0 : Int) ∧ (0 : Int) < 2147483648; omega
theorem rg_his {I : II} {h : Nat} (hR : RG I) : ∀ k, RG (hisM I h k)
  | 0 => hR
  | k + 1 => rg_startM (rg_his hR k) (by omega) (by omega)
theorem rg_I6 : RG I6 := rg_stM (rg_up (rg_up (rg_startM (rg_his (rg_up (rg_startM (rg_startM (rg_startM rg_Z0 (by omega) (by omega)) (by omega) (by omega)) (by omega) (by omega)) (by omega)) 8) (by omega) (by omega)) (by omega)) (by omega)) (by omega)
theorem I6_lo {x : Nat} (hx : x < 508) : I6 x = (startM (hisM (up (startM (startM (startM Z0 1 3 1) 32 3 1) 63 3 1) 198 5 (-1)) 201 8) 464 3 1) x := by
  unfold I6
  rw [stM_v.1 x (by omega) (by omega), up_ne (by omega), up_ne (by omega)]
theorem I6_z {x : Nat} (h : x = 0 ∨ (94 ≤ x ∧ x < 203 ∧ x ≠ 198) ∨ (451 ≤ x ∧ x < 464) ∨ (495 ≤ x ∧ x < 508) ∨ 510 ≤ x) : I6 x = Z0 x := by
  by_cases hx : x < 508
  · rw [I6_lo hx, startM_e (by omega), hisM_e 8 (by omega), up_ne (by omega), startM_e (by omega), startM_e (by omega), startM_e (by omega)]
  · unfold I6
    rw [stM_hi (by omega), up_ne (by omega), up_ne (by omega), startM_e (by omega), hisM_e 8 (by omega), up_ne (by omega), startM_e (by omega), startM_e (by omega), startM_e (by omega)]
theorem I6_198 : (∀ k, k ≠ 5 → I6 198 k = 0) ∧ I6 198 5 = -1 := by
  have e : I6 198 = up (startM (startM (startM Z0 1 3 1) 32 3 1) 63 3 1) 198 5 (-1) 198 := by
    rw [I6_lo (by omega), startM_e (by omega), hisM_e 8 (by omega)]
  rw [e]
  refine ⟨fun k hk => ?_, up_eq⟩
  rw [up_nk hk, startM_e (by omega), startM_e (by omega), startM_e (by omega)]
  rfl
theorem I6_1 {x : Nat} (h1 : 1 ≤ x) (h2 : x < 32) : I6 x = startM Z0 1 3 1 x := by
  rw [I6_lo (by omega), startM_e (by omega), hisM_e 8 (by omega), up_ne (by omega), startM_e (by omega), startM_e (by omega)]
theorem I6_63 {x : Nat} (h1 : 63 ≤ x) (h2 : x < 94) : I6 x = startM (startM (startM Z0 1 3 1) 32 3 1) 63 3 1 x := by
  rw [I6_lo (by omega), startM_e (by omega), hisM_e 8 (by omega), up_ne (by omega)]
theorem I6_464 {x : Nat} (h1 : 464 ≤ x) (h2 : x < 495) : I6 x = (startM (hisM (up (startM (startM (startM Z0 1 3 1) 32 3 1) 63 3 1) 198 5 (-1)) 201 8) 464 3 1) x := I6_lo (by omega)
theorem WfE_st {K : II} {e : Nat} (hz : ∀ x, e ≤ x → x < e + 31 → K x = Z0 x) : WfE (startM K e 3 1) e := by
  obtain ⟨v0, v1, v2, v3, v4, v5, v6⟩ := startM_v (I := K) (e := e) (nc := 3) (ns := 1)
  have z : ∀ x k, e ≤ x → x < e + 31 → K x k = 0 := fun x k a b => by rw [hz x a b]; rfl
  unfold WfE
  rw [v0, v1, v2, v4 0 (by omega), v4 1 (by omega), v4 2 (by omega), v5, z (e + 1) 0 (by omega) (by omega), z (e + 1) 1 (by omega) (by omega), z (e + 1) 2 (by omega) (by omega)]
  refine ⟨by omega, by omega, by omega, by omega, by omega, by omega, fun p hp => ?_, fun p hp => ?_, fun p k hp hk => ?_, fun k hk => ?_, by omega, by omega, by omega, by omega, by omega⟩
  · rw [v6 _ (by omega), z _ _ (by omega) (by omega)]; omega
  · rw [v6 _ (by omega), z _ _ (by omega) (by omega)]; omega
  · rw [v6 _ (by omega), z _ _ (by omega) (by omega)]; omega
  · rw [v3 k hk]; omega
theorem WfT_st {K : II} {e : Nat} (hz : ∀ x, e ≤ x → x < e + 31 → K x = Z0 x) : WfT (startM K e 3 1) e := ⟨WfE_st hz, by rw [startM_v.2.2.1]; omega⟩
theorem sl_0 : SlD (fun k => 203 + 31 * k) := by
  refine ⟨fun k hk => ?_, fun i j hi hj hij => ?_⟩
  · show 203 ≤ 203 + 31 * k ∧ 203 + 31 * k + 31 ≤ 451
    omega
  · show 203 + 31 * i + 31 ≤ 203 + 31 * j ∨ 203 + 31 * j + 31 ≤ 203 + 31 * i
    omega
theorem I6_508 : I6 508 11 = -1 ∧ ∀ k, k ≠ 11 → I6 508 k = 0 := by
  have hb : ∀ k, (startM (hisM (up (startM (startM (startM Z0 1 3 1) 32 3 1) 63 3 1) 198 5 (-1)) 201 8) 464 3 1) 508 k = 0 := fun k => by
    rw [startM_e (by omega), hisM_e 8 (by omega), up_ne (by omega), startM_e (by omega), startM_e (by omega), startM_e (by omega)]
    rfl
  obtain ⟨s1, s2, s3, s4, s5, s6, s7, s8, s9, s10⟩ := stM_v (J := up (up (startM (hisM (up (startM (startM (startM Z0 1 3 1) 32 3 1) 63 3 1) 198 5 (-1)) 201 8) 464 3 1) 508 11 (-1)) 509 6 1) (a := 3)
  refine ⟨?_, fun k hk => ?_⟩
  · show stM (up (up (startM (hisM (up (startM (startM (startM Z0 1 3 1) 32 3 1) 63 3 1) 198 5 (-1)) 201 8) 464 3 1) 508 11 (-1)) 509 6 1) 3 508 11 = -1
    rw [s2 11 (by omega) (by omega) (by omega), up_ne (by omega), up_eq]
  · show stM (up (up (startM (hisM (up (startM (startM (startM Z0 1 3 1) 32 3 1) 63 3 1) 198 5 (-1)) 201 8) 464 3 1) 508 11 (-1)) 509 6 1) 3 508 k = 0
    by_cases h3 : k = 3
    · subst h3; exact s3
    · by_cases h43 : k = 43
      · subst h43; exact s4
      · by_cases h14 : k = 14
        · subst h14; exact s5
        · rw [s2 k h3 h43 h14, up_ne (by omega), up_nk hk]; exact hb k
theorem I6_509 : I6 509 0 = 3 ∧ I6 509 1 = 0 ∧ I6 509 2 = 0 ∧ I6 509 6 = 1 ∧ (∀ k, k < 8 → I6 509 (7 + k) = (k : Int)) ∧ ∀ j, (3 ≤ j ∧ j < 6) ∨ 15 ≤ j → I6 509 j = 0 := by
  have hb : ∀ k, (startM (hisM (up (startM (startM (startM Z0 1 3 1) 32 3 1) 63 3 1) 198 5 (-1)) 201 8) 464 3 1) 509 k = 0 := fun k => by
    rw [startM_e (by omega), hisM_e 8 (by omega), up_ne (by omega), startM_e (by omega), startM_e (by omega), startM_e (by omega)]
    rfl
  obtain ⟨s1, s2, s3, s4, s5, s6, s7, s8, s9, s10⟩ := stM_v (J := up (up (startM (hisM (up (startM (startM (startM Z0 1 3 1) 32 3 1) 63 3 1) 198 5 (-1)) 201 8) 464 3 1) 508 11 (-1)) 509 6 1) (a := 3)
  refine ⟨s6, s7, s8, ?_, s9, fun j hj => ?_⟩
  · show stM (up (up (startM (hisM (up (startM (startM (startM Z0 1 3 1) 32 3 1) 63 3 1) 198 5 (-1)) 201 8) 464 3 1) 508 11 (-1)) 509 6 1) 3 509 6 = 1
    rw [s10 6 (by omega), up_eq]
  · show stM (up (up (startM (hisM (up (startM (startM (startM Z0 1 3 1) 32 3 1) 63 3 1) 198 5 (-1)) 201 8) 464 3 1) 508 11 (-1)) 509 6 1) 3 509 j = 0
    rw [s10 j (by omega), up_nk (by omega), up_ne (by omega)]
    exact hb j
theorem WfM_I6 : WfM I6 := by
  obtain ⟨a0, a1, a2, a6, a7, az⟩ := I6_509
  refine ⟨by rw [a0]; omega, by rw [a1]; omega, by rw [a2]; omega, fun p hp => ?_, fun p hp => ?_, fun p k hp hk => ?_, fun k hk => by rw [a7 k hk]; omega, by rw [az 3 (by omega)]; omega, by rw [az 4 (by omega)]; omega, by rw [az 5 (by omega)]; omega, by rw [a6]; omega⟩
  · have e : mSz I6 p = 0 := az _ (by omega)
    rw [e]; omega
  · have e : mLn I6 p = 0 := az _ (by omega)
    rw [e]; omega
  · have e : mRk I6 p k = 0 := az _ (by omega)
    rw [e]; omega
theorem I6_el {x : Nat} (h : (1 ≤ x ∧ x < 32) ∨ (63 ≤ x ∧ x < 94) ∨ (464 ≤ x ∧ x < 495)) : True := trivial
theorem IV_I6 : IV I6 (fun k => 203 + 31 * k) := by
  obtain ⟨a0, a1, a2, a6, a7, az⟩ := I6_509
  obtain ⟨b11, bz⟩ := I6_508
  obtain ⟨tz, t5⟩ := I6_198
  have zz : ∀ x k, (x = 0 ∨ (94 ≤ x ∧ x < 203 ∧ x ≠ 198) ∨ (451 ≤ x ∧ x < 464) ∨ (495 ≤ x ∧ x < 508) ∨ 510 ≤ x) → I6 x k = 0 := fun x k h => by rw [I6_z h]; rfl
  have w1 : WfT I6 1 := WfT_of (WfT_st (K := Z0) (e := 1) fun _ _ _ => rfl) fun x a b => I6_1 a (by omega)
  have w63 : WfE I6 63 := WfE_of (WfE_st (K := startM (startM Z0 1 3 1) 32 3 1) (e := 63) fun x a b => by rw [startM_e (by omega), startM_e (by omega)]) fun x a b => I6_63 a (by omega)
  have w464 : WfT I6 464 := WfT_of (WfT_st (K := hisM (up (startM (startM (startM Z0 1 3 1) 32 3 1) 63 3 1) 198 5 (-1)) 201 8) (e := 464) fun x a b => by rw [hisM_e 8 (by omega), up_ne (by omega), startM_e (by omega), startM_e (by omega), startM_e (by omega)]) fun x a b => I6_464 a (by omega)
  obtain ⟨v0, v1, v2, v3, v4, v5, v6⟩ := startM_v (I := Z0) (e := 1) (nc := 3) (ns := 1)
  refine ⟨⟨⟨w1.1, rg_I6, ?_, ?_, ?_, fun p => ?_, fun r => ?_⟩, w1.2, ⟨w63, rg_I6, ?_, ?_, ?_, fun p => ?_, fun r => ?_⟩, ⟨?_, fun k hk => ?_, fun k hk => ?_, ?_⟩, ?_, ?_, w464, ?_, fun k hk => ?_, ?_, ?_, ?_, ?_, fun h => ?_⟩, sl_0, ⟨⟨WfM_I6, rg_I6⟩, ?_, fun k hk => ?_, fun k hk => ?_, ?_, ?_⟩, ⟨⟨?_, fun k hk => ?_, fun k hk => ?_, ?_⟩, ?_, fun k hk => ?_⟩, ⟨?_, ?_, ?_, ?_⟩, ⟨0, by omega, ⟨?_, ?_, ?_, ?_, by omega, by omega⟩, fun k hk => ?_, fun k hk => ?_, fun p hp => by omega, fun p h1 h2 => by omega, fun c hc => ⟨c, hc, ?_⟩⟩, fun k hk => ?_, fun h => ?_, fun h => ?_, fun h => ?_, fun h => ?_, Or.inl ?_, fun h => ?_⟩
  · rw [zz 94 10 (by omega)]; omega
  · rw [zz 94 11 (by omega)]; omega
  · rw [zz (94 + 1) 1 (by omega)]; omega
  · rw [zz (94 + 49) p (by omega)]; omega
  · rw [zz (94 + 19 + 7) r (by omega)]; omega
  · rw [zz 146 10 (by omega)]; omega
  · rw [zz 146 11 (by omega)]; omega
  · rw [zz (146 + 1) 1 (by omega)]; omega
  · rw [zz (146 + 49) p (by omega)]; omega
  · rw [zz (146 + 19 + 7) r (by omega)]; omega
  · rw [tz 4 (by omega)]; omega
  · rw [zz (198 + 1) k (by omega)]; omega
  · rw [zz (198 + 2) k (by omega)]; omega
  · rw [tz 2 (by omega)]; omega
  · unfold RI; rw [zz 451 0 (by omega), zz 451 1 (by omega)]; omega
  · unfold RI; rw [zz 495 0 (by omega), zz 495 1 (by omega)]; omega
  · rw [zz 201 1 (by omega)]; omega
  · rw [zz 201 1 (by omega)] at hk; omega
  · exact Or.inl (zz 0 10 (by omega))
  · exact Or.inl (zz 0 11 (by omega))
  · exact Or.inl (zz 0 12 (by omega))
  · exact Or.inl (zz 0 13 (by omega))
  · rw [zz 0 10 (by omega)] at h; omega
  · rw [bz 8 (by omega)]; omega
  · rw [zz 513 k (by omega)]; omega
  · rw [zz 514 k (by omega)]; omega
  · rw [bz 13 (by omega)]; omega
  · rw [a1]; omega
  · rw [tz 4 (by omega)]; omega
  · rw [zz (198 + 1) k (by omega)]; omega
  · rw [zz (198 + 2) k (by omega)]; omega
  · rw [tz 2 (by omega)]; omega
  · rw [tz 4 (by omega), bz 8 (by omega)]
  · rw [zz 199 k (by omega), zz 513 k (by omega)]
  · rw [t5, b11]
  · rw [zz 201 1 (by omega), bz 3 (by omega)]
  · rw [zz 0 11 (by omega), bz 43 (by omega)]
  · rw [zz 0 12 (by omega), bz 5 (by omega)]
  · rw [I6_1 (by omega) (by omega), v0, a0]
  · rw [I6_1 (by omega) (by omega), v1, a2]
  · rw [I6_1 (by omega) (by omega), v2]; rfl
  · rw [a1]; rfl
  · rw [I6_1 (by omega) (by omega), v3 k hk, a7 k hk]
  · rw [I6_1 (by omega) (by omega)]
    by_cases hk3 : k < 3
    · rw [v4 k hk3, az (3 + k) (by omega)]; rfl
    · have hk3 : k = 3 := by omega
      subst hk3
      rw [v5]; exact a6.symm
  · rw [a0] at hc
    exact a7 c (by omega)
  · rw [zz 201 1 (by omega)] at hk; omega
  · rw [zz 0 12 (by omega)] at h; omega
  · rw [zz 0 11 (by omega)] at h; omega
  · rw [zz 0 12 (by omega)] at h; omega
  · rw [zz 0 10 (by omega)] at h; omega
  · exact bz 14 (by omega)
  · rw [bz 14 (by omega)] at h; omega
section YNs
variable {l : Launch} {g : GV} {mt : MT} {dp bc bs bc2 bs2 pc pc2 : Nat} {Z : ZZ} {ls : List (Option Value)} {st : List Value} {S : SS} {I : II} {X : XX}
theorem y_newL {n b : Nat} {z : Int} (hd : DC (mCc mt) pc (.newarray .long) 2 pc2) (h : Nw S b I) (hX0 : ∀ j, X.1 b j = 0) (hz : z = (n : Int)) (hn : n ≤ 1000000) (hlen : b < 800000) (hbc : bc = 1 + bc2) (hbs : bs = n + bs2)
    (kk : ∀ S2, Nw S2 (b + 1) I → XB S S2 b → S2.1[b]? = some (24, n) → V l g mt dp Z bc2 bs2 pc2 ls (.ref b :: st) S2 I X) : V l g mt dp Z bc bs pc ls (.int (ii z) :: st) S I X := by
  have hk := kk (S.1 ++ [(24, n)], S.2.1, true) h.app1 h.app h.at
  refine v_newL hd ac_L (fun j => ?_) hz hn h.1 (by rw [h.2.1]; exact hlen) hbc hbs ?_
  · rw [h.2.1]; exact hX0 j
  · rw [h.2.1]; exact hk
theorem y_newD {n b : Nat} {z : Int} (hd : DC (mCc mt) pc (.newarray .double) 2 pc2) (h : Nw S b I) (hX0 : ∀ j, X.2 b j = 0) (hz : z = (n : Int)) (hn : n ≤ 1000000) (hlen : b < 800000) (hbc : bc = 1 + bc2) (hbs : bs = n + bs2)
    (kk : ∀ S2, Nw S2 (b + 1) I → XB S S2 b → S2.1[b]? = some (25, n) → V l g mt dp Z bc2 bs2 pc2 ls (.ref b :: st) S2 I X) : V l g mt dp Z bc bs pc ls (.int (ii z) :: st) S I X := by
  have hk := kk (S.1 ++ [(25, n)], S.2.1, true) h.app1 h.app h.at
  refine v_newD hd ac_D (fun j => ?_) hz hn h.1 (by rw [h.2.1]; exact hlen) hbc hbs ?_
  · rw [h.2.1]; exact hX0 j
  · rw [h.2.1]; exact hk
end YNs
set_option maxRecDepth 100000 in
set_option maxHeartbeats 4000000 in
theorem w_loop {l : Launch} {g : GV} {Z : ZZ} (hfl : l.stackTraces = false) (hL9 : gL g ≤ 2048) (fin : ∀ q S I X o6 o7, LVI S I → V l g mL_law 18 Z 0 0 1476 [some (.ref 999999), some (.ref 0), some (.ref 508), some (.ref 541), some (.ref 542), some (.int (ii ((4 * q : Nat) : Int))), o6, o7] [] S I X) : ∀ (k q : Nat) (S : SS) (I : II) (X : XX) (o6 o7 : Option Value), gL g < 4 * q + 4 * k + 4 → 4 * q ≤ 2100 → LVI S I → V l g mL_law 18 Z (2 * k) (12 * k) 28 [some (.ref 999999), some (.ref 0), some (.ref 508), some (.ref 541), some (.ref 542), some (.int (ii ((4 * q : Nat) : Int))), o6, o7] [] S I X := by
  intro k
  induction k with
  | zero =>
    intro q S I X o6 o7 h1 h2 hLV
    refine v_iload dL_law_28 rfl ?_
    refine v_aload_n dL_law_30 rfl ?_
    refine v_slen dL_law_31 ?_
    refine v_iconst dL_law_32 ?_
    refine v_isub dL_law_33 ?_
    refine v_ic_gt (tgt := 1476) dL_law_34 (by decide) (fun h34 => ?_) (fun h34 => ?_)
    · exact fin q S I X o6 o7 hLV
    · exfalso; omega
  | succ n ih =>
    intro q S I X o6 o7 h1 h2 hLV
    have hno : S.2.2 = false := by obtain ⟨_, _, _, _, _, h, _⟩ := hLV; exact h
    refine v_iload dL_law_28 rfl ?_
    refine v_aload_n dL_law_30 rfl ?_
    refine v_slen dL_law_31 ?_
    refine v_iconst dL_law_32 ?_
    refine v_isub dL_law_33 ?_
    refine v_ic_gt (tgt := 1476) dL_law_34 (by decide) (fun h34 => ?_) (fun h34 => ?_)
    · exact v_wide (Nat.zero_le _) (Nat.zero_le _) hno (fin q S I X o6 o7 hLV)
    · have hq : 4 * q + 4 ≤ gL g := by omega
      have nx : ∀ S2 I2 X2 p6 p7, LVI S2 I2 → V l g mL_law 18 Z (2 * n) (12 * n) 1470 [some (.ref 999999), some (.ref 0), some (.ref 508), some (.ref 541), some (.ref 542), some (.int (ii ((4 * q : Nat) : Int))), p6, p7] [] S2 I2 X2 := by
        intro S2 I2 X2 p6 p7 hLV2
        refine v_iinc5 dL_law_1470 rfl ?_
        refine v_goto (tgt := 28) dL_law_1473 (by decide) ?_
        have e : ((4 * q : Nat) : Int) + 4 = ((4 * (q + 1) : Nat) : Int) := by omega
        rw [e]
        exact ih (q + 1) S2 I2 X2 p6 p7 (by omega) (by omega) hLV2
      rw [show 2 * (n + 1) = 2 + 2 * n by omega, show 12 * (n + 1) = 12 + 12 * n by omega]
      refine v_aload_n dL_law_37 rfl ?_
      refine v_iload dL_law_38 rfl ?_
      refine y_sld (j := 4 * q) dL_law_40 rfl (by omega) hL9 ?_
      refine v_bipush dL_law_41 (by decide) ?_
      refine v_iand (z := (ii (sx g (4 * q)) &&& ii 31).toInt) dL_law_43 (ii_of _).symm ?_
      have h31 := and31 (ii (sx g (4 * q)))
      generalize (ii (sx g (4 * q)) &&& ii 31).toInt = z at h31 ⊢
      by_cases hz : z ≤ 24
      · have hz2 : z = 0 ∨ z = 1 ∨ z = 2 ∨ z = 3 ∨ z = 4 ∨ z = 5 ∨ z = 6 ∨ z = 7 ∨ z = 8 ∨ z = 9 ∨ z = 10 ∨ z = 11 ∨ z = 12 ∨ z = 13 ∨ z = 14 ∨ z = 15 ∨ z = 16 ∨ z = 17 ∨ z = 18 ∨ z = 19 ∨ z = 20 ∨ z = 21 ∨ z = 22 ∨ z = 23 ∨ z = 24 := by omega
        rcases hz2 with rfl | rfl | rfl | rfl | rfl | rfl | rfl | rfl | rfl | rfl | rfl | rfl | rfl | rfl | rfl | rfl | rfl | rfl | rfl | rfl | rfl | rfl | rfl | rfl | rfl
        · exact v_tabIn (off := 116) (tgt := 160) dL_law_44 (by decide) (by decide) rfl (by decide) (w_begin hfl hL9 hq hLV nx)
        · exact v_tabIn (off := 184) (tgt := 228) dL_law_44 (by decide) (by decide) rfl (by decide) (w_append hfl hL9 hq hLV nx)
        · exact v_tabIn (off := 240) (tgt := 284) dL_law_44 (by decide) (by decide) rfl (by decide) (w_execute hfl hL9 hq hLV nx)
        · exact v_tabIn (off := 284) (tgt := 328) dL_law_44 (by decide) (by decide) rfl (by decide) (w_errorPosition hfl hL9 hq hLV nx)
        · exact v_tabIn (off := 297) (tgt := 341) dL_law_44 (by decide) (by decide) rfl (by decide) (w_set hfl hL9 hq hLV nx)
        · exact v_tabIn (off := 365) (tgt := 409) dL_law_44 (by decide) (by decide) rfl (by decide) (w_withdraw hfl hL9 hq hLV nx)
        · exact v_tabIn (off := 428) (tgt := 472) dL_law_44 (by decide) (by decide) rfl (by decide) (w_pile hfl hL9 hq hLV nx)
        · exact v_tabIn (off := 496) (tgt := 540) dL_law_44 (by decide) (by decide) rfl (by decide) (w_character hfl hL9 hq hLV nx)
        · exact v_tabIn (off := 564) (tgt := 608) dL_law_44 (by decide) (by decide) rfl (by decide) (w_rounds hfl hL9 hq hLV nx)
        · exact v_tabIn (off := 577) (tgt := 621) dL_law_44 (by decide) (by decide) rfl (by decide) (w_votes hfl hL9 hq hLV nx)
        · exact v_tabIn (off := 645) (tgt := 689) dL_law_44 (by decide) (by decide) rfl (by decide) (w_round hfl hL9 hq hLV nx)
        · exact v_tabIn (off := 713) (tgt := 757) dL_law_44 (by decide) (by decide) rfl (by decide) (w_candidate hfl hL9 hq hLV nx)
        · exact v_tabIn (off := 781) (tgt := 825) dL_law_44 (by decide) (by decide) rfl (by decide) (w_elected hfl hL9 hq hLV nx)
        · exact v_tabIn (off := 837) (tgt := 881) dL_law_44 (by decide) (by decide) rfl (by decide) (w_where hfl hL9 hq hLV nx)
        · exact v_tabIn (off := 917) (tgt := 961) dL_law_44 (by decide) (by decide) rfl (by decide) (w_share hfl hL9 hq hLV nx)
        · exact v_tabIn (off := 1007) (tgt := 1051) dL_law_44 (by decide) (by decide) rfl (by decide) (w_preferring hfl hL9 hq hLV nx)
        · exact v_tabIn (off := 1075) (tgt := 1119) dL_law_44 (by decide) (by decide) rfl (by decide) (w_beatsAll hfl hL9 hq hLV nx)
        · exact v_tabIn (off := 1088) (tgt := 1132) dL_law_44 (by decide) (by decide) rfl (by decide) (w_points hfl hL9 hq hLV nx)
        · exact v_tabIn (off := 1144) (tgt := 1188) dL_law_44 (by decide) (by decide) rfl (by decide) (w_declare hfl hL9 hq hLV nx)
        · exact v_tabIn (off := 1157) (tgt := 1201) dL_law_44 (by decide) (by decide) rfl (by decide) (w_recount hfl hL9 hq hLV nx)
        · exact v_tabIn (off := 1213) (tgt := 1257) dL_law_44 (by decide) (by decide) rfl (by decide) (w_needed hfl hL9 hq hLV nx)
        · exact v_tabIn (off := 1269) (tgt := 1313) dL_law_44 (by decide) (by decide) rfl (by decide) (w_undo hfl hL9 hq hLV nx)
        · exact v_tabIn (off := 1313) (tgt := 1357) dL_law_44 (by decide) (by decide) rfl (by decide) (w_save hfl hL9 hq hLV nx)
        · exact v_tabIn (off := 1326) (tgt := 1370) dL_law_44 (by decide) (by decide) rfl (by decide) (w_restore hfl hL9 hq hLV nx)
        · exact v_tabIn (off := 1370) (tgt := 1414) dL_law_44 (by decide) (by decide) rfl (by decide) (w_count hfl hL9 hq hLV nx)
      · exact v_tabOut (tgt := 1470) dL_law_44 (Or.inr (by omega)) (by decide) (v_wide (by omega) (by omega) hno (nx S I X o6 o7 hLV))

def S00 : SS := ([], fun _ _ => none, true)
def X00 : XX := (fun _ _ => 0, fun _ _ => 0)
set_option maxRecDepth 100000 in
set_option maxHeartbeats 4000000 in
theorem w_start {l : Launch} {g : GV} {Z : ZZ} (hfl : l.stackTraces = false) (hL9 : gL g ≤ 2048) (fin : ∀ q S I X o6 o7, LVI S I → V l g mL_law 18 Z 0 0 1476 [some (.ref 999999), some (.ref 0), some (.ref 508), some (.ref 541), some (.ref 542), some (.int (ii ((4 * q : Nat) : Int))), o6, o7] [] S I X) : V l g mL_law 18 Z 603072 7174250 0 [some (.ref 999999), none, none, none, none, none, none, none] [] S00 Z0 X00 := by
  have hN0 : Nw S00 0 Z0 := ⟨rfl, rfl, fun _ _ _ => rfl, fun _ _ _ => rfl⟩
  refine y_new (b := 0) (bc2 := 603071) (bs2 := 7174236) dL_law_0 nw_L_8 hN0 (by omega) rfl rfl (fun S1 hN1 hB1 hQ1 hC1 => ?_)
  have hN1 : Nw S1 1 Z0 := hN1
  refine v_dup dL_law_3 rfl ?_
  refine y_cI0 (a := 0) (m := 508) (bc2 := 602564) (bs2 := 7168814) dL_law_4 lk_L_85 hN1.1 (i_X8 hfl hN1 hC1 hQ1) (by decide) (Nat.le_of_ble_eq_true rfl) rfl rfl (fun S2 hN2 hB2 hP2 => ?_) rfl rfl rfl
  have hN2 : Nw S2 508 (startM (hisM (up (startM (startM (startM Z0 1 3 1) 32 3 1) 63 3 1) 198 5 (-1)) 201 8) 464 3 1) := hN2
  refine v_astn1 dL_law_7 rfl ?_
  refine y_new (b := 508) (bc2 := 602563) (bs2 := 7168764) dL_law_8 nw_L_86 hN2 (by omega) rfl rfl (fun S3 hN3 hB3 hQ3 hC3 => ?_)
  have hN3 : Nw S3 509 (startM (hisM (up (startM (startM (startM Z0 1 3 1) 32 3 1) 63 3 1) 198 5 (-1)) 201 8) 464 3 1) := hN3
  refine v_dup dL_law_11 rfl ?_
  refine y_cI0 (a := 508) (m := 33) (bc2 := 602531) (bs2 := 7163638) dL_law_12 lk_L_88 hN3.1 (i_X9 hfl hN3 hC3 hQ3) (by decide) (Nat.le_of_ble_eq_true rfl) rfl rfl (fun S4 hN4 hB4 hP4 => ?_) rfl rfl rfl
  have hN4 : Nw S4 541 I6 := hN4
  refine v_astn2 dL_law_15 rfl ?_
  refine v_iconst dL_law_16 ?_
  refine y_newL (b := 541) (n := 1) (bc2 := 602530) (bs2 := 7163637) dL_law_17 hN4 (fun _ => rfl) rfl (by decide) (by omega) rfl rfl (fun S5 hN5 hB5 hC5 => ?_)
  have hN5 : Nw S5 542 I6 := hN5
  refine v_astn3 dL_law_19 rfl ?_
  refine v_iconst dL_law_20 ?_
  refine y_newD (b := 542) (n := 1) (bc2 := 602529) (bs2 := 7163636) dL_law_21 hN5 (fun _ => rfl) rfl (by decide) (by omega) rfl rfl (fun S6 hN6 hB6 hC6 => ?_)
  refine v_ast4 dL_law_23 rfl ?_
  refine v_iconst dL_law_25 ?_
  refine v_ist5 dL_law_26 rfl ?_
  have hLC : LC S6 (fun k => 203 + 31 * k) := LC_xb hP2 ((hB3.tr (hB4.le (by omega)) (Nat.le_refl _)).tr ((hB5.le (by omega)).tr (hB6.le (by omega)) (Nat.le_refl _)) (Nat.le_refl _))
  have hMod : isMod S6 := isMod_xb hP4 (hB5.tr hB6 (by omega))
  have hLV : LVI (S6.1, S6.2.1, false) I6 := ⟨_, hLC, hMod, (hB6 541 (by omega)).1.trans hC5, hC6, rfl, IV_I6⟩
  refine v_slack ?_
  exact v_wide (bc2 := 2 * 512) (bs2 := 12 * 512) (by decide) (by decide) rfl (w_loop hfl hL9 fin 512 0 (S6.1, S6.2.1, false) I6 _ none none (by omega) (by omega) hLV)
