/-! THE LAW'S LOOP: one case after the other -/
theorem isMod_of {S S2 : SS} (h : isMod S) (h1 : S2.1 = S.1) (h2 : S2.2.1 508 = S.2.1 508) : isMod S2 := by
  unfold isMod at *
  rw [h1, h2]
  exact h
/-- what holds between two calls of the law -/
def LVI (S : SS) (I : II) : Prop := ∃ sl, LC S sl ∧ isMod S ∧ S.1[541]? = some (24, 1) ∧ S.1[542]? = some (25, 1) ∧ S.2.2 = false ∧ IV I sl
theorem OK1.r {E : String} {r : RR} {b : Int} {J : II} (h : OK1 E r b J) : R1 E r := by
  rcases h with ⟨z, h, _⟩ | ⟨h, _⟩
  · exact Or.inl ⟨z, h⟩
  · exact Or.inr h
theorem OK2.r {E E2 : String} {r : RR} {b : Int} {J : II} (h : OK2 E E2 r b J) : R2 E E2 r := by
  rcases h with ⟨z, h, _⟩ | ⟨h, _⟩ | ⟨h, _⟩
  · exact Or.inl ⟨z, h⟩
  · exact Or.inr (Or.inl h)
  · exact Or.inr (Or.inr h)
theorem wr_eq {z y : Int} (h : ii z = ii y) : wr z = wr y := by
  unfold wr
  rw [h]
theorem join1 {E : String} {r : RR} {b k : Int} {J : II} {x : Int64} (h : OK1 E r b J) (hk : (∃ z, r.1 = .inl (some (.int (ii z))) ∧ k = 0 ∧ x = jj (wr z)) ∨ (r.1 = .inr E ∧ k = 1)) : (k = 0 ∧ J 508 6 = 0 ∧ x = jj (wr b)) ∨ (k = 1 ∧ J 508 6 = 1) := by
  rcases h with ⟨z, h1, h2, rfl⟩ | ⟨h1, h2⟩
  · rcases hk with ⟨y, k1, k2, k3⟩ | ⟨k1, k2⟩
    · rw [h1] at k1
      have e : ii z = ii y := by injection k1 with k1; injection k1 with k1; injection k1
      exact Or.inl ⟨k2, h2, by rw [k3, wr_eq e]⟩
    · rw [h1] at k1; cases k1
  · rcases hk with ⟨y, k1, k2, k3⟩ | ⟨k1, k2⟩
    · rw [h1] at k1; cases k1
    · exact Or.inr ⟨k2, h2⟩
theorem join2 {E E2 : String} {r : RR} {b k : Int} {J : II} {x : Int64} (hE : E ≠ E2) (h : OK2 E E2 r b J) (hk : (∃ z, r.1 = .inl (some (.int (ii z))) ∧ k = 0 ∧ x = jj (wr z)) ∨ (r.1 = .inr E ∧ k = 1) ∨ (r.1 = .inr E2 ∧ k = 2)) : (k = 0 ∧ J 508 6 = 0 ∧ x = jj (wr b)) ∨ (k = 1 ∧ J 508 6 = 1) ∨ (k = 2 ∧ J 508 6 = 2) := by
  rcases h with ⟨z, h1, h2, rfl⟩ | ⟨h1, h2⟩ | ⟨h1, h2⟩
  · rcases hk with ⟨y, k1, k2, k3⟩ | ⟨k1, k2⟩ | ⟨k1, k2⟩
    · rw [h1] at k1
      have e : ii z = ii y := by injection k1 with k1; injection k1 with k1; injection k1
      exact Or.inl ⟨k2, h2, by rw [k3, wr_eq e]⟩
    · rw [h1] at k1; cases k1
    · rw [h1] at k1; cases k1
  · rcases hk with ⟨y, k1, k2, k3⟩ | ⟨k1, k2⟩ | ⟨k1, k2⟩
    · rw [h1] at k1; cases k1
    · exact Or.inr (Or.inl ⟨k2, h2⟩)
    · rw [h1] at k1
      injection k1 with k1
      exact absurd k1 hE
  · rcases hk with ⟨y, k1, k2, k3⟩ | ⟨k1, k2⟩ | ⟨k1, k2⟩
    · rw [h1] at k1; cases k1
    · rw [h1] at k1
      injection k1 with k1
      exact absurd k1.symm hE
    · exact Or.inr (Or.inr ⟨k2, h2⟩)
theorem joinF {r : RR} {b : UInt32} {k : Int} {J : II} {x : UInt64} (h : OKf r b J) (hk : (∃ u, r.1 = .inl (some (.float u)) ∧ k = 0 ∧ x = FP.f2d u) ∨ (r.1 = .inr IOB ∧ k = 1) ∨ (r.1 = .inr ARI ∧ k = 2)) : (k = 0 ∧ J 508 6 = 0 ∧ x = FP.f2d b) ∨ (k = 1 ∧ J 508 6 = 1) ∨ (k = 2 ∧ J 508 6 = 2) := by
  have hE : IOB ≠ ARI := by decide
  rcases h with ⟨h1, h2⟩ | ⟨h1, h2⟩ | ⟨h1, h2⟩
  · rcases hk with ⟨y, k1, k2, k3⟩ | ⟨k1, k2⟩ | ⟨k1, k2⟩
    · rw [h1] at k1
      have e : b = y := by injection k1 with k1; injection k1 with k1; injection k1
      exact Or.inl ⟨k2, h2, by rw [k3, e]⟩
    · rw [h1] at k1; cases k1
    · rw [h1] at k1; cases k1
  · rcases hk with ⟨y, k1, k2, k3⟩ | ⟨k1, k2⟩ | ⟨k1, k2⟩
    · rw [h1] at k1; cases k1
    · exact Or.inr (Or.inl ⟨k2, h2⟩)
    · rw [h1] at k1
      injection k1 with k1
      exact absurd k1 hE
  · rcases hk with ⟨y, k1, k2, k3⟩ | ⟨k1, k2⟩ | ⟨k1, k2⟩
    · rw [h1] at k1; cases k1
    · rw [h1] at k1
      injection k1 with k1
      exact absurd k1.symm hE
    · exact Or.inr (Or.inr ⟨k2, h2⟩)
section LWs
variable {l : Launch} {g : GV} {mt : MT} {dp bc bs bc2 bs2 pc pc2 : Nat} {Z : ZZ} {ls : List (Option Value)} {st : List Value} {S : SS} {I I2 : II} {X : XX}
/-- room that is not used -/
theorem v_wide (hbc : bc2 ≤ bc) (hbs : bs2 ≤ bs) (hno : S.2.2 = false) (k : V l g mt dp Z bc2 bs2 pc ls st S I X) : V l g mt dp Z bc bs pc ls st S I X := by
  intro p e s m args below meth c H locs cells slots R lsA hv
  obtain ⟨h1, h2, ⟨b1, b2, b3⟩, h4⟩ := hv
  refine W.widen (k := cells + (bc - bc2)) (n := slots + (bs - bs2)) (by omega) (by omega) ?_
  exact k p e s m args below meth c H locs _ _ R lsA ⟨h1, h2, ⟨by omega, by omega, fun h => absurd (hno.symm.trans h) (by decide)⟩, h4⟩
def sx (g : GV) (j : Nat) : Int := (gXs g j).toInt
theorem sx_rng (g : GV) (j : Nat) : -2147483648 ≤ sx g j ∧ sx g j < 2147483648 := ii_rng _
theorem y_sld {z : Int} {j : Nat} (hd : DC (mCc mt) pc .iaload 1 pc2) (hz : z = (j : Int)) (hj : j < gL g) (hL : gL g ≤ 2048) (kk : V l g mt dp Z bc bs pc2 ls (.int (ii (sx g j)) :: st) S I X) : V l g mt dp Z bc bs pc ls (.int (ii z) :: .ref 999999 :: st) S I X := by
  refine v_sld hd hz hj hL ?_
  have e : ii (sx g j) = gXs g j := ii_of _
  rw [e] at kk
  exact kk
theorem cw {av : List Value} {b : Int} (h : CE l g mt dp av S I X (some (.int (ii b))) I2) : CE l g mt dp av S I X (some (.int (ii (wr b)))) I2 := by
  rw [ii_wr]
  exact h
end LWs
theorem lq1_no {E1 : String} {r : RR} {S2 : SS} : ∀ E S I X, ¬ LQ1 E1 r S2 (.inr E) S I X := fun E S I X h => by
  obtain ⟨_, _, k, h, _⟩ := h
  cases h
theorem lq2_no {E1 E2 : String} {r : RR} {S2 : SS} : ∀ E S I X, ¬ LQ2 E1 E2 r S2 (.inr E) S I X := fun E S I X h => by
  obtain ⟨_, _, k, h, _⟩ := h
  cases h
theorem lqf_no {E1 E2 : String} {r : RR} {S2 : SS} : ∀ E S I X, ¬ LQF E1 E2 r S2 (.inr E) S I X := fun E S I X h => by
  obtain ⟨_, _, k, h, _⟩ := h
  cases h

set_option maxRecDepth 100000 in
set_option maxHeartbeats 4000000 in
theorem w_begin {l : Launch} {g : GV} {S : SS} {I : II} {X : XX} {Z : ZZ} {bc bs q : Nat} {o6 o7 : Option Value} (hfl : l.stackTraces = false) (hL9 : gL g ≤ 2048) (hq : 4 * q + 4 ≤ gL g) (hLV : LVI S I) (nx : ∀ S2 I2 X2 p6 p7, LVI S2 I2 → V l g mL_law 18 Z bc bs 1470 [some (.ref 999999), some (.ref 0), some (.ref 508), some (.ref 541), some (.ref 542), some (.int (ii ((4 * q : Nat) : Int))), p6, p7] [] S2 I2 X2) : V l g mL_law 18 Z (2 + bc) (12 + bs) 160 [some (.ref 999999), some (.ref 0), some (.ref 508), some (.ref 541), some (.ref 542), some (.int (ii ((4 * q : Nat) : Int))), o6, o7] [] S I X := by
  obtain ⟨sl, hL, hM, h541, h542, hno, hI⟩ := hLV
  have hm0 := hL.1
  obtain ⟨m1, m2, m3⟩ := s_begin (a := (sx g (4 * q + 1))) (b := (sx g (4 * q + 2))) hI
  have hC := c_begin (g := g) (X := X) hfl hno hL hI.1 (sx_rng g (4 * q + 1)) (sx_rng g (4 * q + 2))
  have hno2 := hno
  have hL2 := hL
  have hM2 := hM
  have hm8 := hM2.1
  refine v_aload_n dL_law_160 rfl ?_
  refine v_aload_n dL_law_161 rfl ?_
  refine v_iload dL_law_162 rfl ?_
  refine v_iconst dL_law_164 ?_
  refine v_iadd dL_law_165 ?_
  refine y_sld (j := 4 * q + 1) dL_law_166 (by omega) (by omega) hL9 ?_
  refine v_aload_n dL_law_167 rfl ?_
  refine v_iload dL_law_168 rfl ?_
  refine v_iconst dL_law_170 ?_
  refine v_iadd dL_law_171 ?_
  refine y_sld (j := 4 * q + 2) dL_law_172 (by omega) (by omega) hL9 ?_
  refine v_aload_n dL_law_173 rfl ?_
  refine v_callW (bc2 := 1 + bc) (bs2 := 6 + bs) (As := [.ref 0, .int (ii (sx g (4 * q + 1))), .int (ii (sx g (4 * q + 2))), .ref 541]) dL_law_174 lk_L_89 (by decide) rfl (h_begin hfl hno hno2 hm0 h541 hC m3.r) (by decide) (Nat.le_of_ble_eq_true rfl) hno lq1_no (fun v S3 I3 X3 h => by obtain ⟨rfl, _⟩ := h; exact hno2) (by omega) (by omega) ?_
  intro v S3 I3 X3 h
  obtain ⟨rfl, rfl, k, hk, hrel⟩ := h
  cases hk
  have hj := join1 m3 hrel
  have hwr := wr_rng (bgM (bgR I (sx g (4 * q + 1)) (sx g (4 * q + 2))).2 (sx g (4 * q + 1)) (sx g (4 * q + 2))).1
  refine v_ist6 dL_law_177 rfl ?_
  refine v_aload_n dL_law_179 rfl ?_
  refine v_aload_n dL_law_180 rfl ?_
  refine v_iload dL_law_181 rfl ?_
  refine v_iconst dL_law_183 ?_
  refine v_iadd dL_law_184 ?_
  refine y_sld (j := 4 * q + 1) dL_law_185 (by omega) (by omega) hL9 ?_
  refine v_aload_n dL_law_186 rfl ?_
  refine v_iload dL_law_187 rfl ?_
  refine v_iconst dL_law_189 ?_
  refine v_iadd dL_law_190 ?_
  refine y_sld (j := 4 * q + 2) dL_law_191 (by omega) (by omega) hL9 ?_
  refine v_cV2 dL_law_192 lk_L_94 (by assumption) (by decide) rfl (cw (k_begin hfl hM2 m1 (sx_rng g (4 * q + 1)) (sx_rng g (4 * q + 2)))) (by decide) (Nat.le_of_ble_eq_true rfl) ?_ rfl
  refine v_ist7 dL_law_195 rfl ?_
  refine v_aload_n dL_law_197 rfl ?_
  refine v_cV0 dL_law_198 lk_L_95 (by assumption) (by decide) rfl (k_thrown hfl hM2) (by decide) (Nat.le_of_ble_eq_true rfl) ?_ rfl
  refine v_iload dL_law_201 rfl ?_
  refine v_ic_eq (tgt := 208) dL_law_203 (by decide) (fun h203 => ?_) (fun h203 => ?_)
  · refine v_iload dL_law_208 rfl ?_
    refine v_if_ne (tgt := 225) dL_law_210 (by decide) (fun h210 => ?_) (fun h210 => ?_)
    · refine v_goto (tgt := 1470) dL_law_225 (by decide) ?_
      exact v_wide (by omega) (by omega) hno2 (nx _ _ _ _ _ ⟨_, hL2, hM2, h541, h542, hno2, m2⟩)
    · refine v_aload_n dL_law_213 rfl ?_
      refine v_iconst dL_law_214 ?_
      refine v_lald (j := 0) dL_law_215 (by assumption) (by first | rfl | omega) (by omega) ?_
      refine v_iload dL_law_216 rfl ?_
      refine v_i2l dL_law_218 ?_
      have hx3 : X3.1 541 0 = jj (wr (bgM (bgR I (sx g (4 * q + 1)) (sx g (4 * q + 2))).2 (sx g (4 * q + 1)) (sx g (4 * q + 2))).1) := by
        rcases hj with h9 | h9
        · exact h9.2.2
        · exfalso; omega
      refine v_lcmp (z := 0) dL_law_219 (by rw [hx3, lg_cmpI (by omega) (by omega), cmpI_0.mpr rfl]) ?_
      refine v_if_eq (tgt := 225) dL_law_220 (by decide) (fun h220 => ?_) (fun h220 => ?_)
      · refine v_goto (tgt := 1470) dL_law_225 (by decide) ?_
        exact v_wide (by omega) (by omega) hno2 (nx _ _ _ _ _ ⟨_, hL2, hM2, h541, h542, hno2, m2⟩)
      · exact absurd rfl h220
  · exfalso
    omega

set_option maxRecDepth 100000 in
set_option maxHeartbeats 4000000 in
theorem w_append {l : Launch} {g : GV} {S : SS} {I : II} {X : XX} {Z : ZZ} {bc bs q : Nat} {o6 o7 : Option Value} (hfl : l.stackTraces = false) (hL9 : gL g ≤ 2048) (hq : 4 * q + 4 ≤ gL g) (hLV : LVI S I) (nx : ∀ S2 I2 X2 p6 p7, LVI S2 I2 → V l g mL_law 18 Z bc bs 1470 [some (.ref 999999), some (.ref 0), some (.ref 508), some (.ref 541), some (.ref 542), some (.int (ii ((4 * q : Nat) : Int))), p6, p7] [] S2 I2 X2) : V l g mL_law 18 Z (2 + bc) (12 + bs) 228 [some (.ref 999999), some (.ref 0), some (.ref 508), some (.ref 541), some (.ref 542), some (.int (ii ((4 * q : Nat) : Int))), o6, o7] [] S I X := by
  obtain ⟨sl, hL, hM, h541, h542, hno, hI⟩ := hLV
  have hm0 := hL.1
  obtain ⟨m1, m4, m2, m3⟩ := s_append (p := (sx g (4 * q + 1))) hI
  have hC := c_append (g := g) (X := X) hfl hno hL hI.1 (sx_rng g (4 * q + 1))
  have hno2 := hno
  have hL2 := hL
  have hM2 := hM
  have hm8 := hM2.1
  refine v_aload_n dL_law_228 rfl ?_
  refine v_aload_n dL_law_229 rfl ?_
  refine v_iload dL_law_230 rfl ?_
  refine v_iconst dL_law_232 ?_
  refine v_iadd dL_law_233 ?_
  refine y_sld (j := 4 * q + 1) dL_law_234 (by omega) (by omega) hL9 ?_
  refine v_aload_n dL_law_235 rfl ?_
  refine v_callW (bc2 := 1 + bc) (bs2 := 6 + bs) (As := [.ref 0, .int (ii (sx g (4 * q + 1))), .ref 541]) dL_law_236 lk_L_98 (by decide) rfl (h_append hfl hno hno2 hm0 h541 hC m3.r) (by decide) (Nat.le_of_ble_eq_true rfl) hno lq2_no (fun v S3 I3 X3 h => by obtain ⟨rfl, _⟩ := h; exact hno2) (by omega) (by omega) ?_
  intro v S3 I3 X3 h
  obtain ⟨rfl, rfl, k, hk, hrel⟩ := h
  cases hk
  have hj := join2 (by decide) m3 hrel
  have hwr := wr_rng (apM (apR I (sx g (4 * q + 1))).2 (sx g (4 * q + 1))).1
  refine v_ist6 dL_law_239 rfl ?_
  refine v_aload_n dL_law_241 rfl ?_
  refine v_aload_n dL_law_242 rfl ?_
  refine v_iload dL_law_243 rfl ?_
  refine v_iconst dL_law_245 ?_
  refine v_iadd dL_law_246 ?_
  refine y_sld (j := 4 * q + 1) dL_law_247 (by omega) (by omega) hL9 ?_
  refine v_cV1 dL_law_248 lk_L_101 (by assumption) (by decide) rfl (cw (k_append hfl hM2 m1 m4 (sx_rng g (4 * q + 1)))) (by decide) (Nat.le_of_ble_eq_true rfl) ?_ rfl
  refine v_ist7 dL_law_251 rfl ?_
  refine v_aload_n dL_law_253 rfl ?_
  refine v_cV0 dL_law_254 lk_L_95 (by assumption) (by decide) rfl (k_thrown hfl hM2) (by decide) (Nat.le_of_ble_eq_true rfl) ?_ rfl
  refine v_iload dL_law_257 rfl ?_
  refine v_ic_eq (tgt := 264) dL_law_259 (by decide) (fun h259 => ?_) (fun h259 => ?_)
  · refine v_iload dL_law_264 rfl ?_
    refine v_if_ne (tgt := 281) dL_law_266 (by decide) (fun h266 => ?_) (fun h266 => ?_)
    · refine v_goto (tgt := 1470) dL_law_281 (by decide) ?_
      exact v_wide (by omega) (by omega) hno2 (nx _ _ _ _ _ ⟨_, hL2, hM2, h541, h542, hno2, m2⟩)
    · refine v_aload_n dL_law_269 rfl ?_
      refine v_iconst dL_law_270 ?_
      refine v_lald (j := 0) dL_law_271 (by assumption) (by first | rfl | omega) (by omega) ?_
      refine v_iload dL_law_272 rfl ?_
      refine v_i2l dL_law_274 ?_
      have hx3 : X3.1 541 0 = jj (wr (apM (apR I (sx g (4 * q + 1))).2 (sx g (4 * q + 1))).1) := by
        rcases hj with h9 | h9 | h9
        · exact h9.2.2
        · exfalso; omega
        · exfalso; omega
      refine v_lcmp (z := 0) dL_law_275 (by rw [hx3, lg_cmpI (by omega) (by omega), cmpI_0.mpr rfl]) ?_
      refine v_if_eq (tgt := 281) dL_law_276 (by decide) (fun h276 => ?_) (fun h276 => ?_)
      · refine v_goto (tgt := 1470) dL_law_281 (by decide) ?_
        exact v_wide (by omega) (by omega) hno2 (nx _ _ _ _ _ ⟨_, hL2, hM2, h541, h542, hno2, m2⟩)
      · exact absurd rfl h276
  · exfalso
    omega

set_option maxRecDepth 100000 in
set_option maxHeartbeats 4000000 in
theorem w_execute {l : Launch} {g : GV} {S : SS} {I : II} {X : XX} {Z : ZZ} {bc bs q : Nat} {o6 o7 : Option Value} (hfl : l.stackTraces = false) (hL9 : gL g ≤ 2048) (hq : 4 * q + 4 ≤ gL g) (hLV : LVI S I) (nx : ∀ S2 I2 X2 p6 p7, LVI S2 I2 → V l g mL_law 18 Z bc bs 1470 [some (.ref 999999), some (.ref 0), some (.ref 508), some (.ref 541), some (.ref 542), some (.int (ii ((4 * q : Nat) : Int))), p6, p7] [] S2 I2 X2) : V l g mL_law 18 Z (2 + bc) (12 + bs) 284 [some (.ref 999999), some (.ref 0), some (.ref 508), some (.ref 541), some (.ref 542), some (.int (ii ((4 * q : Nat) : Int))), o6, o7] [] S I X := by
  obtain ⟨sl, hL, hM, h541, h542, hno, hI⟩ := hLV
  have hm0 := hL.1
  obtain ⟨n, hn⟩ := Int.eq_ofNat_of_zero_le hI.1.2.2.2.2.2.2.2.1.1
  obtain ⟨zz, FF, m1, m4, m5, m2, m3⟩ := s_execute hI hn
  have hC := c_execute (g := g) (X := X) (zz := 0) hfl hno hL hI.1 hI.2.1.1 hn
  have hl1 : (exW S I n).1 = S.1 := by
    unfold exW
    split
    · rfl
    · exact reS_1
  have hp8 : (exW S I n).2.1 508 = S.2.1 508 := by
    unfold exW
    split
    · rfl
    · exact reS_p (by omega)
  have hno2 : (exW S I n).2.2 = false := by
    unfold exW
    split
    · exact hno
    · exact reS_no.trans hno
  have hL2 : LC (exW S I n) (if (exJ I).1 = -1 then sl else reSl sl n) := by
    unfold exW
    by_cases hb : (exJ I).1 = -1
    · rw [if_pos hb, if_pos hb]; exact hL
    · rw [if_neg hb, if_neg hb]; exact LC_re hL
  have hM2 : isMod (exW S I n) := isMod_of hM hl1 hp8
  rw [← hl1] at h541 h542
  have hm8 := hM2.1
  refine v_aload_n dL_law_284 rfl ?_
  refine v_aload_n dL_law_285 rfl ?_
  refine v_callW (bc2 := 1 + bc) (bs2 := 6 + bs) (As := [.ref 0, .ref 541]) dL_law_286 lk_L_102 (by decide) rfl (h_execute hfl hno hno2 hm0 h541 hC m3.r) (by decide) (Nat.le_of_ble_eq_true rfl) hno lq1_no (fun v S3 I3 X3 h => by obtain ⟨rfl, _⟩ := h; exact hno2) (by omega) (by omega) ?_
  intro v S3 I3 X3 h
  obtain ⟨rfl, rfl, k, hk, hrel⟩ := h
  cases hk
  have hj := join1 m3 hrel
  have hwr := wr_rng zz
  refine v_ist6 dL_law_289 rfl ?_
  refine v_aload_n dL_law_291 rfl ?_
  refine v_cV0 dL_law_292 lk_L_105 (by assumption) (by decide) rfl (cw (k_execute hfl hM2 m1 m4 m5)) (by decide) (Nat.le_of_ble_eq_true rfl) ?_ rfl
  refine v_ist7 dL_law_295 rfl ?_
  refine v_aload_n dL_law_297 rfl ?_
  refine v_cV0 dL_law_298 lk_L_95 (by assumption) (by decide) rfl (k_thrown hfl hM2) (by decide) (Nat.le_of_ble_eq_true rfl) ?_ rfl
  refine v_iload dL_law_301 rfl ?_
  refine v_ic_eq (tgt := 308) dL_law_303 (by decide) (fun h303 => ?_) (fun h303 => ?_)
  · refine v_iload dL_law_308 rfl ?_
    refine v_if_ne (tgt := 325) dL_law_310 (by decide) (fun h310 => ?_) (fun h310 => ?_)
    · refine v_goto (tgt := 1470) dL_law_325 (by decide) ?_
      exact v_wide (by omega) (by omega) hno2 (nx _ _ _ _ _ ⟨_, hL2, hM2, h541, h542, hno2, m2⟩)
    · refine v_aload_n dL_law_313 rfl ?_
      refine v_iconst dL_law_314 ?_
      refine v_lald (j := 0) dL_law_315 (by assumption) (by first | rfl | omega) (by omega) ?_
      refine v_iload dL_law_316 rfl ?_
      refine v_i2l dL_law_318 ?_
      have hx3 : X3.1 541 0 = jj (wr zz) := by
        rcases hj with h9 | h9
        · exact h9.2.2
        · exfalso; omega
      refine v_lcmp (z := 0) dL_law_319 (by rw [hx3, lg_cmpI (by omega) (by omega), cmpI_0.mpr rfl]) ?_
      refine v_if_eq (tgt := 325) dL_law_320 (by decide) (fun h320 => ?_) (fun h320 => ?_)
      · refine v_goto (tgt := 1470) dL_law_325 (by decide) ?_
        exact v_wide (by omega) (by omega) hno2 (nx _ _ _ _ _ ⟨_, hL2, hM2, h541, h542, hno2, m2⟩)
      · exact absurd rfl h320
  · exfalso
    omega

set_option maxRecDepth 100000 in
set_option maxHeartbeats 4000000 in
theorem w_errorPosition {l : Launch} {g : GV} {S : SS} {I : II} {X : XX} {Z : ZZ} {bc bs q : Nat} {o6 o7 : Option Value} (hfl : l.stackTraces = false) (hL9 : gL g ≤ 2048) (hq : 4 * q + 4 ≤ gL g) (hLV : LVI S I) (nx : ∀ S2 I2 X2 p6 p7, LVI S2 I2 → V l g mL_law 18 Z bc bs 1470 [some (.ref 999999), some (.ref 0), some (.ref 508), some (.ref 541), some (.ref 542), some (.int (ii ((4 * q : Nat) : Int))), p6, p7] [] S2 I2 X2) : V l g mL_law 18 Z (2 + bc) (12 + bs) 328 [some (.ref 999999), some (.ref 0), some (.ref 508), some (.ref 541), some (.ref 542), some (.int (ii ((4 * q : Nat) : Int))), o6, o7] [] S I X := by
  obtain ⟨sl, hL, hM, h541, h542, hno, hI⟩ := hLV
  have hm0 := hL.1
  have hno2 := hno
  have hL2 := hL
  have hM2 := hM
  have hm8 := hM.1
  obtain ⟨m2, m3⟩ := s_errorPosition hI
  have hr9 := hI.rg 198 5
  refine v_aload_n dL_law_328 rfl ?_
  refine v_cV0 dL_law_329 lk_L_106 (by assumption) (by decide) rfl (c_errorPosition hfl hL) (by decide) (Nat.le_of_ble_eq_true rfl) ?_ rfl
  refine v_aload_n dL_law_332 rfl ?_
  refine v_cV0 dL_law_333 lk_L_109 (by assumption) (by decide) rfl (k_errorPosition hfl hM) (by decide) (Nat.le_of_ble_eq_true rfl) ?_ rfl
  rw [← m3]
  refine v_ic_eq (tgt := 1470) dL_law_336 (by decide) (fun h336 => ?_) (fun h336 => ?_)
  · exact v_wide (by omega) (by omega) hno2 (nx _ _ _ _ _ ⟨_, hL2, hM2, h541, h542, hno2, m2⟩)
  · exact absurd rfl h336

set_option maxRecDepth 100000 in
set_option maxHeartbeats 4000000 in
theorem w_set {l : Launch} {g : GV} {S : SS} {I : II} {X : XX} {Z : ZZ} {bc bs q : Nat} {o6 o7 : Option Value} (hfl : l.stackTraces = false) (hL9 : gL g ≤ 2048) (hq : 4 * q + 4 ≤ gL g) (hLV : LVI S I) (nx : ∀ S2 I2 X2 p6 p7, LVI S2 I2 → V l g mL_law 18 Z bc bs 1470 [some (.ref 999999), some (.ref 0), some (.ref 508), some (.ref 541), some (.ref 542), some (.int (ii ((4 * q : Nat) : Int))), p6, p7] [] S2 I2 X2) : V l g mL_law 18 Z (2 + bc) (12 + bs) 341 [some (.ref 999999), some (.ref 0), some (.ref 508), some (.ref 541), some (.ref 542), some (.int (ii ((4 * q : Nat) : Int))), o6, o7] [] S I X := by
  obtain ⟨sl, hL, hM, h541, h542, hno, hI⟩ := hLV
  have hm0 := hL.1
  obtain ⟨n, hn⟩ := Int.eq_ofNat_of_zero_le hI.1.2.2.2.2.2.2.2.1.1
  obtain ⟨m1, m4, m2, m3⟩ := s_set (a := (sx g (4 * q + 1))) (b := (sx g (4 * q + 2))) hI hn
  have hC := c_set (g := g) (X := X) hfl hno hL hI.1 hI.2.1.1 hn (sx_rng g (4 * q + 1)) (sx_rng g (4 * q + 2))
  have hl1 : (stW S (sx g (4 * q + 1)) (sx g (4 * q + 2)) n).1 = S.1 := by
    unfold stW
    split
    · rfl
    · exact reS_1
  have hp8 : (stW S (sx g (4 * q + 1)) (sx g (4 * q + 2)) n).2.1 508 = S.2.1 508 := by
    unfold stW
    split
    · rfl
    · exact reS_p (by omega)
  have hno2 : (stW S (sx g (4 * q + 1)) (sx g (4 * q + 2)) n).2.2 = false := by
    unfold stW
    split
    · exact hno
    · exact reS_no.trans hno
  have hL2 : LC (stW S (sx g (4 * q + 1)) (sx g (4 * q + 2)) n) (if stB (sx g (4 * q + 1)) (sx g (4 * q + 2)) then sl else reSl sl n) := by
    unfold stW
    by_cases hb : stB (sx g (4 * q + 1)) (sx g (4 * q + 2))
    · rw [if_pos hb, if_pos hb]; exact hL
    · rw [if_neg hb, if_neg hb]; exact LC_re hL
  have hM2 : isMod (stW S (sx g (4 * q + 1)) (sx g (4 * q + 2)) n) := isMod_of hM hl1 hp8
  rw [← hl1] at h541 h542
  have hm8 := hM2.1
  refine v_aload_n dL_law_341 rfl ?_
  refine v_aload_n dL_law_342 rfl ?_
  refine v_iload dL_law_343 rfl ?_
  refine v_iconst dL_law_345 ?_
  refine v_iadd dL_law_346 ?_
  refine y_sld (j := 4 * q + 1) dL_law_347 (by omega) (by omega) hL9 ?_
  refine v_aload_n dL_law_348 rfl ?_
  refine v_iload dL_law_349 rfl ?_
  refine v_iconst dL_law_351 ?_
  refine v_iadd dL_law_352 ?_
  refine y_sld (j := 4 * q + 2) dL_law_353 (by omega) (by omega) hL9 ?_
  refine v_aload_n dL_law_354 rfl ?_
  refine v_callW (bc2 := 1 + bc) (bs2 := 6 + bs) (As := [.ref 0, .int (ii (sx g (4 * q + 1))), .int (ii (sx g (4 * q + 2))), .ref 541]) dL_law_355 lk_L_110 (by decide) rfl (h_set hfl hno hno2 hm0 h541 hC m3.r) (by decide) (Nat.le_of_ble_eq_true rfl) hno lq1_no (fun v S3 I3 X3 h => by obtain ⟨rfl, _⟩ := h; exact hno2) (by omega) (by omega) ?_
  intro v S3 I3 X3 h
  obtain ⟨rfl, rfl, k, hk, hrel⟩ := h
  cases hk
  have hj := join1 m3 hrel
  have hwr := wr_rng (seM (stR I (sx g (4 * q + 1)) (sx g (4 * q + 2)) n sl).2 (sx g (4 * q + 1)) (sx g (4 * q + 2))).1
  refine v_ist6 dL_law_358 rfl ?_
  refine v_aload_n dL_law_360 rfl ?_
  refine v_aload_n dL_law_361 rfl ?_
  refine v_iload dL_law_362 rfl ?_
  refine v_iconst dL_law_364 ?_
  refine v_iadd dL_law_365 ?_
  refine y_sld (j := 4 * q + 1) dL_law_366 (by omega) (by omega) hL9 ?_
  refine v_aload_n dL_law_367 rfl ?_
  refine v_iload dL_law_368 rfl ?_
  refine v_iconst dL_law_370 ?_
  refine v_iadd dL_law_371 ?_
  refine y_sld (j := 4 * q + 2) dL_law_372 (by omega) (by omega) hL9 ?_
  refine v_cV2 dL_law_373 lk_L_112 (by assumption) (by decide) rfl (cw (k_set hfl hM2 m1 m4 (sx_rng g (4 * q + 1)) (sx_rng g (4 * q + 2)))) (by decide) (Nat.le_of_ble_eq_true rfl) ?_ rfl
  refine v_ist7 dL_law_376 rfl ?_
  refine v_aload_n dL_law_378 rfl ?_
  refine v_cV0 dL_law_379 lk_L_95 (by assumption) (by decide) rfl (k_thrown hfl hM2) (by decide) (Nat.le_of_ble_eq_true rfl) ?_ rfl
  refine v_iload dL_law_382 rfl ?_
  refine v_ic_eq (tgt := 389) dL_law_384 (by decide) (fun h384 => ?_) (fun h384 => ?_)
  · refine v_iload dL_law_389 rfl ?_
    refine v_if_ne (tgt := 406) dL_law_391 (by decide) (fun h391 => ?_) (fun h391 => ?_)
    · refine v_goto (tgt := 1470) dL_law_406 (by decide) ?_
      exact v_wide (by omega) (by omega) hno2 (nx _ _ _ _ _ ⟨_, hL2, hM2, h541, h542, hno2, m2⟩)
    · refine v_aload_n dL_law_394 rfl ?_
      refine v_iconst dL_law_395 ?_
      refine v_lald (j := 0) dL_law_396 (by assumption) (by first | rfl | omega) (by omega) ?_
      refine v_iload dL_law_397 rfl ?_
      refine v_i2l dL_law_399 ?_
      have hx3 : X3.1 541 0 = jj (wr (seM (stR I (sx g (4 * q + 1)) (sx g (4 * q + 2)) n sl).2 (sx g (4 * q + 1)) (sx g (4 * q + 2))).1) := by
        rcases hj with h9 | h9
        · exact h9.2.2
        · exfalso; omega
      refine v_lcmp (z := 0) dL_law_400 (by rw [hx3, lg_cmpI (by omega) (by omega), cmpI_0.mpr rfl]) ?_
      refine v_if_eq (tgt := 406) dL_law_401 (by decide) (fun h401 => ?_) (fun h401 => ?_)
      · refine v_goto (tgt := 1470) dL_law_406 (by decide) ?_
        exact v_wide (by omega) (by omega) hno2 (nx _ _ _ _ _ ⟨_, hL2, hM2, h541, h542, hno2, m2⟩)
      · exact absurd rfl h401
  · exfalso
    omega

set_option maxRecDepth 100000 in
set_option maxHeartbeats 4000000 in
theorem w_withdraw {l : Launch} {g : GV} {S : SS} {I : II} {X : XX} {Z : ZZ} {bc bs q : Nat} {o6 o7 : Option Value} (hfl : l.stackTraces = false) (hL9 : gL g ≤ 2048) (hq : 4 * q + 4 ≤ gL g) (hLV : LVI S I) (nx : ∀ S2 I2 X2 p6 p7, LVI S2 I2 → V l g mL_law 18 Z bc bs 1470 [some (.ref 999999), some (.ref 0), some (.ref 508), some (.ref 541), some (.ref 542), some (.int (ii ((4 * q : Nat) : Int))), p6, p7] [] S2 I2 X2) : V l g mL_law 18 Z (2 + bc) (12 + bs) 409 [some (.ref 999999), some (.ref 0), some (.ref 508), some (.ref 541), some (.ref 542), some (.int (ii ((4 * q : Nat) : Int))), o6, o7] [] S I X := by
  obtain ⟨sl, hL, hM, h541, h542, hno, hI⟩ := hLV
  have hm0 := hL.1
  obtain ⟨n, hn⟩ := Int.eq_ofNat_of_zero_le hI.1.2.2.2.2.2.2.2.1.1
  obtain ⟨m1, m4, m2, m3⟩ := s_withdraw (c := (sx g (4 * q + 1))) hI hn
  have hC := c_withdraw (g := g) (X := X) hfl hno hL hI.1 hI.2.1.1 hn (sx_rng g (4 * q + 1))
  have hl1 : (wdS S I (sx g (4 * q + 1)) n).1 = S.1 := by
    unfold wdS
    split
    · rfl
    · exact reS_1
  have hp8 : (wdS S I (sx g (4 * q + 1)) n).2.1 508 = S.2.1 508 := by
    unfold wdS
    split
    · rfl
    · exact reS_p (by omega)
  have hno2 : (wdS S I (sx g (4 * q + 1)) n).2.2 = false := by
    unfold wdS
    split
    · exact hno
    · exact reS_no.trans hno
  have hL2 : LC (wdS S I (sx g (4 * q + 1)) n) (if icF I (sx g (4 * q + 1)) = 0 then sl else reSl sl n) := by
    unfold wdS
    by_cases hb : icF I (sx g (4 * q + 1)) = 0
    · rw [if_pos hb, if_pos hb]; exact hL
    · rw [if_neg hb, if_neg hb]; exact LC_re hL
  have hM2 : isMod (wdS S I (sx g (4 * q + 1)) n) := isMod_of hM hl1 hp8
  rw [← hl1] at h541 h542
  have hm8 := hM2.1
  have hrb : RB IOB (wdR I (sx g (4 * q + 1)) n sl) := by
    unfold wdR
    split
    · exact Or.inr rfl
    · exact Or.inl ⟨_, btI_01 _ _, rfl⟩
  refine v_aload_n dL_law_409 rfl ?_
  refine v_aload_n dL_law_410 rfl ?_
  refine v_iload dL_law_411 rfl ?_
  refine v_iconst dL_law_413 ?_
  refine v_iadd dL_law_414 ?_
  refine y_sld (j := 4 * q + 1) dL_law_415 (by omega) (by omega) hL9 ?_
  refine v_aload_n dL_law_416 rfl ?_
  refine v_callW (bc2 := 1 + bc) (bs2 := 6 + bs) (As := [.ref 0, .int (ii (sx g (4 * q + 1))), .ref 541]) dL_law_417 lk_L_113 (by decide) rfl (h_withdraw hfl hno hno2 hm0 h541 hC hrb) (by decide) (Nat.le_of_ble_eq_true rfl) hno lq1_no (fun v S3 I3 X3 h => by obtain ⟨rfl, _⟩ := h; exact hno2) (by omega) (by omega) ?_
  intro v S3 I3 X3 h
  obtain ⟨rfl, rfl, k, hk, hrel⟩ := h
  cases hk
  have hj := join1 m3 hrel
  have hwr := wr_rng (wdM (wdR I (sx g (4 * q + 1)) n sl).2 (sx g (4 * q + 1))).1
  refine v_ist6 dL_law_420 rfl ?_
  refine v_aload_n dL_law_422 rfl ?_
  refine v_aload_n dL_law_423 rfl ?_
  refine v_iload dL_law_424 rfl ?_
  refine v_iconst dL_law_426 ?_
  refine v_iadd dL_law_427 ?_
  refine y_sld (j := 4 * q + 1) dL_law_428 (by omega) (by omega) hL9 ?_
  refine v_cV1 dL_law_429 lk_L_115 (by assumption) (by decide) rfl (k_withdraw hfl hM2 m1 m4 (sx_rng g (4 * q + 1))) (by decide) (Nat.le_of_ble_eq_true rfl) ?_ rfl
  refine v_ist7 dL_law_432 rfl ?_
  refine v_aload_n dL_law_434 rfl ?_
  refine v_cV0 dL_law_435 lk_L_95 (by assumption) (by decide) rfl (k_thrown hfl hM2) (by decide) (Nat.le_of_ble_eq_true rfl) ?_ rfl
  refine v_iload dL_law_438 rfl ?_
  refine v_ic_eq (tgt := 445) dL_law_440 (by decide) (fun h440 => ?_) (fun h440 => ?_)
  · refine v_iload dL_law_445 rfl ?_
    refine v_if_ne (tgt := 469) dL_law_447 (by decide) (fun h447 => ?_) (fun h447 => ?_)
    · refine v_goto (tgt := 1470) dL_law_469 (by decide) ?_
      exact v_wide (by omega) (by omega) hno2 (nx _ _ _ _ _ ⟨_, hL2, hM2, h541, h542, hno2, m2⟩)
    · refine v_aload_n dL_law_450 rfl ?_
      refine v_iconst dL_law_451 ?_
      refine v_lald (j := 0) dL_law_452 (by assumption) (by first | rfl | omega) (by omega) ?_
      refine v_iload dL_law_453 rfl ?_
      have hb01 : (wdM (wdR I (sx g (4 * q + 1)) n sl).2 (sx g (4 * q + 1))).1 = 0 ∨ (wdM (wdR I (sx g (4 * q + 1)) n sl).2 (sx g (4 * q + 1))).1 = 1 := by
        unfold wdM
        split
        · exact btI_01 _ _
        · exact Or.inl rfl
      refine v_if_eq (tgt := 462) dL_law_455 (by decide) (fun h455 => ?_) (fun h455 => ?_)
      · refine v_lconst dL_law_462 rfl ?_
        have hx3 : X3.1 541 0 = jj (wr (wdM (wdR I (sx g (4 * q + 1)) n sl).2 (sx g (4 * q + 1))).1) := by
          rcases hj with h9 | h9
          · exact h9.2.2
          · exfalso; omega
        have hb2 : (wdM (wdR I (sx g (4 * q + 1)) n sl).2 (sx g (4 * q + 1))).1 = 0 := by omega
        refine v_lcmp (z := 0) dL_law_463 (by rw [hx3, hb2]; decide) ?_
        refine v_if_eq (tgt := 469) dL_law_464 (by decide) (fun h464 => ?_) (fun h464 => ?_)
        · refine v_goto (tgt := 1470) dL_law_469 (by decide) ?_
          exact v_wide (by omega) (by omega) hno2 (nx _ _ _ _ _ ⟨_, hL2, hM2, h541, h542, hno2, m2⟩)
        · exact absurd rfl h464
      · refine v_lconst dL_law_458 rfl ?_
        refine v_goto (tgt := 463) dL_law_459 (by decide) ?_
        have hx3 : X3.1 541 0 = jj (wr (wdM (wdR I (sx g (4 * q + 1)) n sl).2 (sx g (4 * q + 1))).1) := by
          rcases hj with h9 | h9
          · exact h9.2.2
          · exfalso; omega
        have hb2 : (wdM (wdR I (sx g (4 * q + 1)) n sl).2 (sx g (4 * q + 1))).1 = 1 := by omega
        refine v_lcmp (z := 0) dL_law_463 (by rw [hx3, hb2]; decide) ?_
        refine v_if_eq (tgt := 469) dL_law_464 (by decide) (fun h464 => ?_) (fun h464 => ?_)
        · refine v_goto (tgt := 1470) dL_law_469 (by decide) ?_
          exact v_wide (by omega) (by omega) hno2 (nx _ _ _ _ _ ⟨_, hL2, hM2, h541, h542, hno2, m2⟩)
        · exact absurd rfl h464
  · exfalso
    omega

set_option maxRecDepth 100000 in
set_option maxHeartbeats 4000000 in
theorem w_pile {l : Launch} {g : GV} {S : SS} {I : II} {X : XX} {Z : ZZ} {bc bs q : Nat} {o6 o7 : Option Value} (hfl : l.stackTraces = false) (hL9 : gL g ≤ 2048) (hq : 4 * q + 4 ≤ gL g) (hLV : LVI S I) (nx : ∀ S2 I2 X2 p6 p7, LVI S2 I2 → V l g mL_law 18 Z bc bs 1470 [some (.ref 999999), some (.ref 0), some (.ref 508), some (.ref 541), some (.ref 542), some (.int (ii ((4 * q : Nat) : Int))), p6, p7] [] S2 I2 X2) : V l g mL_law 18 Z (2 + bc) (12 + bs) 472 [some (.ref 999999), some (.ref 0), some (.ref 508), some (.ref 541), some (.ref 542), some (.int (ii ((4 * q : Nat) : Int))), o6, o7] [] S I X := by
  obtain ⟨sl, hL, hM, h541, h542, hno, hI⟩ := hLV
  have hm0 := hL.1
  obtain ⟨e2, m2, m3⟩ := s_pile (z := (sx g (4 * q + 1))) (w := (sx g (4 * q + 2))) hI
  have hC := c_pile (g := g) (X := X) hfl hno hL hI.1 (sx_rng g (4 * q + 1)) (sx_rng g (4 * q + 2))
  have hno2 := hno
  have hL2 := hL
  have hM2 := hM
  have hm8 := hM2.1
  refine v_aload_n dL_law_472 rfl ?_
  refine v_aload_n dL_law_473 rfl ?_
  refine v_iload dL_law_474 rfl ?_
  refine v_iconst dL_law_476 ?_
  refine v_iadd dL_law_477 ?_
  refine y_sld (j := 4 * q + 1) dL_law_478 (by omega) (by omega) hL9 ?_
  refine v_aload_n dL_law_479 rfl ?_
  refine v_iload dL_law_480 rfl ?_
  refine v_iconst dL_law_482 ?_
  refine v_iadd dL_law_483 ?_
  refine y_sld (j := 4 * q + 2) dL_law_484 (by omega) (by omega) hL9 ?_
  refine v_aload_n dL_law_485 rfl ?_
  refine v_callW (bc2 := 1 + bc) (bs2 := 6 + bs) (As := [.ref 0, .int (ii (sx g (4 * q + 1))), .int (ii (sx g (4 * q + 2))), .ref 541]) dL_law_486 lk_L_116 (by decide) rfl (h_pile hfl hno hno2 hm0 h541 hC m3.r) (by decide) (Nat.le_of_ble_eq_true rfl) hno lq2_no (fun v S3 I3 X3 h => by obtain ⟨rfl, _⟩ := h; exact hno2) (by omega) (by omega) ?_
  intro v S3 I3 X3 h
  obtain ⟨rfl, rfl, k, hk, hrel⟩ := h
  cases hk
  rw [e2]
  have hj := join2 (by decide) m3 hrel
  have hwr := wr_rng (plM I (sx g (4 * q + 1)) (sx g (4 * q + 2))).1
  refine v_ist6 dL_law_489 rfl ?_
  refine v_aload_n dL_law_491 rfl ?_
  refine v_aload_n dL_law_492 rfl ?_
  refine v_iload dL_law_493 rfl ?_
  refine v_iconst dL_law_495 ?_
  refine v_iadd dL_law_496 ?_
  refine y_sld (j := 4 * q + 1) dL_law_497 (by omega) (by omega) hL9 ?_
  refine v_aload_n dL_law_498 rfl ?_
  refine v_iload dL_law_499 rfl ?_
  refine v_iconst dL_law_501 ?_
  refine v_iadd dL_law_502 ?_
  refine y_sld (j := 4 * q + 2) dL_law_503 (by omega) (by omega) hL9 ?_
  refine v_cV2 dL_law_504 lk_L_118 (by assumption) (by decide) rfl (cw (k_pile hfl hM2 hI.mi (sx_rng g (4 * q + 1)) (sx_rng g (4 * q + 2)))) (by decide) (Nat.le_of_ble_eq_true rfl) ?_ rfl
  refine v_ist7 dL_law_507 rfl ?_
  refine v_aload_n dL_law_509 rfl ?_
  refine v_cV0 dL_law_510 lk_L_95 (by assumption) (by decide) rfl (k_thrown hfl hM2) (by decide) (Nat.le_of_ble_eq_true rfl) ?_ rfl
  refine v_iload dL_law_513 rfl ?_
  refine v_ic_eq (tgt := 520) dL_law_515 (by decide) (fun h515 => ?_) (fun h515 => ?_)
  · refine v_iload dL_law_520 rfl ?_
    refine v_if_ne (tgt := 537) dL_law_522 (by decide) (fun h522 => ?_) (fun h522 => ?_)
    · refine v_goto (tgt := 1470) dL_law_537 (by decide) ?_
      exact v_wide (by omega) (by omega) hno2 (nx _ _ _ _ _ ⟨_, hL2, hM2, h541, h542, hno2, m2⟩)
    · refine v_aload_n dL_law_525 rfl ?_
      refine v_iconst dL_law_526 ?_
      refine v_lald (j := 0) dL_law_527 (by assumption) (by first | rfl | omega) (by omega) ?_
      refine v_iload dL_law_528 rfl ?_
      refine v_i2l dL_law_530 ?_
      have hx3 : X3.1 541 0 = jj (wr (plM I (sx g (4 * q + 1)) (sx g (4 * q + 2))).1) := by
        rcases hj with h9 | h9 | h9
        · exact h9.2.2
        · exfalso; omega
        · exfalso; omega
      refine v_lcmp (z := 0) dL_law_531 (by rw [hx3, lg_cmpI (by omega) (by omega), cmpI_0.mpr rfl]) ?_
      refine v_if_eq (tgt := 537) dL_law_532 (by decide) (fun h532 => ?_) (fun h532 => ?_)
      · refine v_goto (tgt := 1470) dL_law_537 (by decide) ?_
        exact v_wide (by omega) (by omega) hno2 (nx _ _ _ _ _ ⟨_, hL2, hM2, h541, h542, hno2, m2⟩)
      · exact absurd rfl h532
  · exfalso
    omega

set_option maxRecDepth 100000 in
set_option maxHeartbeats 4000000 in
theorem w_character {l : Launch} {g : GV} {S : SS} {I : II} {X : XX} {Z : ZZ} {bc bs q : Nat} {o6 o7 : Option Value} (hfl : l.stackTraces = false) (hL9 : gL g ≤ 2048) (hq : 4 * q + 4 ≤ gL g) (hLV : LVI S I) (nx : ∀ S2 I2 X2 p6 p7, LVI S2 I2 → V l g mL_law 18 Z bc bs 1470 [some (.ref 999999), some (.ref 0), some (.ref 508), some (.ref 541), some (.ref 542), some (.int (ii ((4 * q : Nat) : Int))), p6, p7] [] S2 I2 X2) : V l g mL_law 18 Z (2 + bc) (12 + bs) 540 [some (.ref 999999), some (.ref 0), some (.ref 508), some (.ref 541), some (.ref 542), some (.int (ii ((4 * q : Nat) : Int))), o6, o7] [] S I X := by
  obtain ⟨sl, hL, hM, h541, h542, hno, hI⟩ := hLV
  have hm0 := hL.1
  obtain ⟨e2, m2, m3⟩ := s_character (z := (sx g (4 * q + 1))) (x := (sx g (4 * q + 2))) hI
  have hC := c_character (g := g) (X := X) hfl hno hL hI.1 (sx_rng g (4 * q + 1)) (sx_rng g (4 * q + 2))
  have hno2 := hno
  have hL2 := hL
  have hM2 := hM
  have hm8 := hM2.1
  refine v_aload_n dL_law_540 rfl ?_
  refine v_aload_n dL_law_541 rfl ?_
  refine v_iload dL_law_542 rfl ?_
  refine v_iconst dL_law_544 ?_
  refine v_iadd dL_law_545 ?_
  refine y_sld (j := 4 * q + 1) dL_law_546 (by omega) (by omega) hL9 ?_
  refine v_aload_n dL_law_547 rfl ?_
  refine v_iload dL_law_548 rfl ?_
  refine v_iconst dL_law_550 ?_
  refine v_iadd dL_law_551 ?_
  refine y_sld (j := 4 * q + 2) dL_law_552 (by omega) (by omega) hL9 ?_
  refine v_aload_n dL_law_553 rfl ?_
  refine v_callW (bc2 := 1 + bc) (bs2 := 6 + bs) (As := [.ref 0, .int (ii (sx g (4 * q + 1))), .int (ii (sx g (4 * q + 2))), .ref 541]) dL_law_554 lk_L_119 (by decide) rfl (h_character hfl hno hno2 hm0 h541 hC m3.r) (by decide) (Nat.le_of_ble_eq_true rfl) hno lq1_no (fun v S3 I3 X3 h => by obtain ⟨rfl, _⟩ := h; exact hno2) (by omega) (by omega) ?_
  intro v S3 I3 X3 h
  obtain ⟨rfl, rfl, k, hk, hrel⟩ := h
  cases hk
  rw [e2]
  have hj := join1 m3 hrel
  have hwr := wr_rng (chM9 I (sx g (4 * q + 1)) (sx g (4 * q + 2))).1
  refine v_ist6 dL_law_557 rfl ?_
  refine v_aload_n dL_law_559 rfl ?_
  refine v_aload_n dL_law_560 rfl ?_
  refine v_iload dL_law_561 rfl ?_
  refine v_iconst dL_law_563 ?_
  refine v_iadd dL_law_564 ?_
  refine y_sld (j := 4 * q + 1) dL_law_565 (by omega) (by omega) hL9 ?_
  refine v_aload_n dL_law_566 rfl ?_
  refine v_iload dL_law_567 rfl ?_
  refine v_iconst dL_law_569 ?_
  refine v_iadd dL_law_570 ?_
  refine y_sld (j := 4 * q + 2) dL_law_571 (by omega) (by omega) hL9 ?_
  refine v_cV2 dL_law_572 lk_L_121 (by assumption) (by decide) rfl (cw (k_character hfl hM2 hI.mi (sx_rng g (4 * q + 1)) (sx_rng g (4 * q + 2)))) (by decide) (Nat.le_of_ble_eq_true rfl) ?_ rfl
  refine v_ist7 dL_law_575 rfl ?_
  refine v_aload_n dL_law_577 rfl ?_
  refine v_cV0 dL_law_578 lk_L_95 (by assumption) (by decide) rfl (k_thrown hfl hM2) (by decide) (Nat.le_of_ble_eq_true rfl) ?_ rfl
  refine v_iload dL_law_581 rfl ?_
  refine v_ic_eq (tgt := 588) dL_law_583 (by decide) (fun h583 => ?_) (fun h583 => ?_)
  · refine v_iload dL_law_588 rfl ?_
    refine v_if_ne (tgt := 605) dL_law_590 (by decide) (fun h590 => ?_) (fun h590 => ?_)
    · refine v_goto (tgt := 1470) dL_law_605 (by decide) ?_
      exact v_wide (by omega) (by omega) hno2 (nx _ _ _ _ _ ⟨_, hL2, hM2, h541, h542, hno2, m2⟩)
    · refine v_aload_n dL_law_593 rfl ?_
      refine v_iconst dL_law_594 ?_
      refine v_lald (j := 0) dL_law_595 (by assumption) (by first | rfl | omega) (by omega) ?_
      refine v_iload dL_law_596 rfl ?_
      refine v_i2l dL_law_598 ?_
      have hx3 : X3.1 541 0 = jj (wr (chM9 I (sx g (4 * q + 1)) (sx g (4 * q + 2))).1) := by
        rcases hj with h9 | h9
        · exact h9.2.2
        · exfalso; omega
      refine v_lcmp (z := 0) dL_law_599 (by rw [hx3, lg_cmpI (by omega) (by omega), cmpI_0.mpr rfl]) ?_
      refine v_if_eq (tgt := 605) dL_law_600 (by decide) (fun h600 => ?_) (fun h600 => ?_)
      · refine v_goto (tgt := 1470) dL_law_605 (by decide) ?_
        exact v_wide (by omega) (by omega) hno2 (nx _ _ _ _ _ ⟨_, hL2, hM2, h541, h542, hno2, m2⟩)
      · exact absurd rfl h600
  · exfalso
    omega

set_option maxRecDepth 100000 in
set_option maxHeartbeats 4000000 in
theorem w_rounds {l : Launch} {g : GV} {S : SS} {I : II} {X : XX} {Z : ZZ} {bc bs q : Nat} {o6 o7 : Option Value} (hfl : l.stackTraces = false) (hL9 : gL g ≤ 2048) (hq : 4 * q + 4 ≤ gL g) (hLV : LVI S I) (nx : ∀ S2 I2 X2 p6 p7, LVI S2 I2 → V l g mL_law 18 Z bc bs 1470 [some (.ref 999999), some (.ref 0), some (.ref 508), some (.ref 541), some (.ref 542), some (.int (ii ((4 * q : Nat) : Int))), p6, p7] [] S2 I2 X2) : V l g mL_law 18 Z (2 + bc) (12 + bs) 608 [some (.ref 999999), some (.ref 0), some (.ref 508), some (.ref 541), some (.ref 542), some (.int (ii ((4 * q : Nat) : Int))), o6, o7] [] S I X := by
  obtain ⟨sl, hL, hM, h541, h542, hno, hI⟩ := hLV
  have hm0 := hL.1
  have hno2 := hno
  have hL2 := hL
  have hM2 := hM
  have hm8 := hM.1
  obtain ⟨m1, K, hK, m2, m3⟩ := s_rounds hI
  have hr9 := m1.rg 95 0
  refine v_aload_n dL_law_608 rfl ?_
  refine v_cV0 dL_law_609 lk_L_122 (by assumption) (by decide) rfl (c_rounds hfl hL hI.1) (by decide) (Nat.le_of_ble_eq_true rfl) ?_ rfl
  refine v_aload_n dL_law_612 rfl ?_
  refine v_cV0 dL_law_613 lk_L_125 (by assumption) (by decide) rfl (k_rounds hfl hM m1.mi hK) (by decide) (Nat.le_of_ble_eq_true rfl) ?_ rfl
  rw [← m3]
  refine v_ic_eq (tgt := 1470) dL_law_616 (by decide) (fun h616 => ?_) (fun h616 => ?_)
  · exact v_wide (by omega) (by omega) hno2 (nx _ _ _ _ _ ⟨_, hL2, hM2, h541, h542, hno2, m2⟩)
  · exact absurd rfl h616

set_option maxRecDepth 100000 in
set_option maxHeartbeats 4000000 in
theorem w_votes {l : Launch} {g : GV} {S : SS} {I : II} {X : XX} {Z : ZZ} {bc bs q : Nat} {o6 o7 : Option Value} (hfl : l.stackTraces = false) (hL9 : gL g ≤ 2048) (hq : 4 * q + 4 ≤ gL g) (hLV : LVI S I) (nx : ∀ S2 I2 X2 p6 p7, LVI S2 I2 → V l g mL_law 18 Z bc bs 1470 [some (.ref 999999), some (.ref 0), some (.ref 508), some (.ref 541), some (.ref 542), some (.int (ii ((4 * q : Nat) : Int))), p6, p7] [] S2 I2 X2) : V l g mL_law 18 Z (2 + bc) (12 + bs) 621 [some (.ref 999999), some (.ref 0), some (.ref 508), some (.ref 541), some (.ref 542), some (.int (ii ((4 * q : Nat) : Int))), o6, o7] [] S I X := by
  obtain ⟨sl, hL, hM, h541, h542, hno, hI⟩ := hLV
  have hm0 := hL.1
  obtain ⟨m1, K, hK, hO, m2, m3⟩ := s_votes (z := (sx g (4 * q + 1))) (c := (sx g (4 * q + 2))) hI
  have hC := c_votes (g := g) (X := X) hfl hno hL hI.1 (sx_rng g (4 * q + 1)) (sx_rng g (4 * q + 2))
  have hno2 := hno
  have hL2 := hL
  have hM2 := hM
  have hm8 := hM2.1
  refine v_aload_n dL_law_621 rfl ?_
  refine v_aload_n dL_law_622 rfl ?_
  refine v_iload dL_law_623 rfl ?_
  refine v_iconst dL_law_625 ?_
  refine v_iadd dL_law_626 ?_
  refine y_sld (j := 4 * q + 1) dL_law_627 (by omega) (by omega) hL9 ?_
  refine v_aload_n dL_law_628 rfl ?_
  refine v_iload dL_law_629 rfl ?_
  refine v_iconst dL_law_631 ?_
  refine v_iadd dL_law_632 ?_
  refine y_sld (j := 4 * q + 2) dL_law_633 (by omega) (by omega) hL9 ?_
  refine v_aload_n dL_law_634 rfl ?_
  refine v_callW (bc2 := 1 + bc) (bs2 := 6 + bs) (As := [.ref 0, .int (ii (sx g (4 * q + 1))), .int (ii (sx g (4 * q + 2))), .ref 541]) dL_law_635 lk_L_126 (by decide) rfl (h_votes hfl hno hno2 hm0 h541 hC m3.r) (by decide) (Nat.le_of_ble_eq_true rfl) hno lq1_no (fun v S3 I3 X3 h => by obtain ⟨rfl, _⟩ := h; exact hno2) (by omega) (by omega) ?_
  intro v S3 I3 X3 h
  obtain ⟨rfl, rfl, k, hk, hrel⟩ := h
  cases hk
  have hj := join1 m3 hrel
  have hwr := wr_rng (vtM K (sx g (4 * q + 1)) (sx g (4 * q + 2))).1
  refine v_ist6 dL_law_638 rfl ?_
  refine v_aload_n dL_law_640 rfl ?_
  refine v_aload_n dL_law_641 rfl ?_
  refine v_iload dL_law_642 rfl ?_
  refine v_iconst dL_law_644 ?_
  refine v_iadd dL_law_645 ?_
  refine y_sld (j := 4 * q + 1) dL_law_646 (by omega) (by omega) hL9 ?_
  refine v_aload_n dL_law_647 rfl ?_
  refine v_iload dL_law_648 rfl ?_
  refine v_iconst dL_law_650 ?_
  refine v_iadd dL_law_651 ?_
  refine y_sld (j := 4 * q + 2) dL_law_652 (by omega) (by omega) hL9 ?_
  refine v_cV2 dL_law_653 lk_L_128 (by assumption) (by decide) rfl (cw (k_votes hfl hM2 m1.mi hK hO (sx_rng g (4 * q + 1)) (sx_rng g (4 * q + 2)))) (by decide) (Nat.le_of_ble_eq_true rfl) ?_ rfl
  refine v_ist7 dL_law_656 rfl ?_
  refine v_aload_n dL_law_658 rfl ?_
  refine v_cV0 dL_law_659 lk_L_95 (by assumption) (by decide) rfl (k_thrown hfl hM2) (by decide) (Nat.le_of_ble_eq_true rfl) ?_ rfl
  refine v_iload dL_law_662 rfl ?_
  refine v_ic_eq (tgt := 669) dL_law_664 (by decide) (fun h664 => ?_) (fun h664 => ?_)
  · refine v_iload dL_law_669 rfl ?_
    refine v_if_ne (tgt := 686) dL_law_671 (by decide) (fun h671 => ?_) (fun h671 => ?_)
    · refine v_goto (tgt := 1470) dL_law_686 (by decide) ?_
      exact v_wide (by omega) (by omega) hno2 (nx _ _ _ _ _ ⟨_, hL2, hM2, h541, h542, hno2, m2⟩)
    · refine v_aload_n dL_law_674 rfl ?_
      refine v_iconst dL_law_675 ?_
      refine v_lald (j := 0) dL_law_676 (by assumption) (by first | rfl | omega) (by omega) ?_
      refine v_iload dL_law_677 rfl ?_
      refine v_i2l dL_law_679 ?_
      have hx3 : X3.1 541 0 = jj (wr (vtM K (sx g (4 * q + 1)) (sx g (4 * q + 2))).1) := by
        rcases hj with h9 | h9
        · exact h9.2.2
        · exfalso; omega
      refine v_lcmp (z := 0) dL_law_680 (by rw [hx3, lg_cmpI (by omega) (by omega), cmpI_0.mpr rfl]) ?_
      refine v_if_eq (tgt := 686) dL_law_681 (by decide) (fun h681 => ?_) (fun h681 => ?_)
      · refine v_goto (tgt := 1470) dL_law_686 (by decide) ?_
        exact v_wide (by omega) (by omega) hno2 (nx _ _ _ _ _ ⟨_, hL2, hM2, h541, h542, hno2, m2⟩)
      · exact absurd rfl h681
  · exfalso
    omega

set_option maxRecDepth 100000 in
set_option maxHeartbeats 4000000 in
theorem w_round {l : Launch} {g : GV} {S : SS} {I : II} {X : XX} {Z : ZZ} {bc bs q : Nat} {o6 o7 : Option Value} (hfl : l.stackTraces = false) (hL9 : gL g ≤ 2048) (hq : 4 * q + 4 ≤ gL g) (hLV : LVI S I) (nx : ∀ S2 I2 X2 p6 p7, LVI S2 I2 → V l g mL_law 18 Z bc bs 1470 [some (.ref 999999), some (.ref 0), some (.ref 508), some (.ref 541), some (.ref 542), some (.int (ii ((4 * q : Nat) : Int))), p6, p7] [] S2 I2 X2) : V l g mL_law 18 Z (2 + bc) (12 + bs) 689 [some (.ref 999999), some (.ref 0), some (.ref 508), some (.ref 541), some (.ref 542), some (.int (ii ((4 * q : Nat) : Int))), o6, o7] [] S I X := by
  obtain ⟨sl, hL, hM, h541, h542, hno, hI⟩ := hLV
  have hm0 := hL.1
  obtain ⟨m1, K, hK, hO, m2, m3⟩ := s_round (z := (sx g (4 * q + 1))) (c := (sx g (4 * q + 2))) hI
  have hC := c_round (g := g) (X := X) hfl hno hL hI.1 (sx_rng g (4 * q + 1)) (sx_rng g (4 * q + 2))
  have hno2 := hno
  have hL2 := hL
  have hM2 := hM
  have hm8 := hM2.1
  refine v_aload_n dL_law_689 rfl ?_
  refine v_aload_n dL_law_690 rfl ?_
  refine v_iload dL_law_691 rfl ?_
  refine v_iconst dL_law_693 ?_
  refine v_iadd dL_law_694 ?_
  refine y_sld (j := 4 * q + 1) dL_law_695 (by omega) (by omega) hL9 ?_
  refine v_aload_n dL_law_696 rfl ?_
  refine v_iload dL_law_697 rfl ?_
  refine v_iconst dL_law_699 ?_
  refine v_iadd dL_law_700 ?_
  refine y_sld (j := 4 * q + 2) dL_law_701 (by omega) (by omega) hL9 ?_
  refine v_aload_n dL_law_702 rfl ?_
  refine v_callW (bc2 := 1 + bc) (bs2 := 6 + bs) (As := [.ref 0, .int (ii (sx g (4 * q + 1))), .int (ii (sx g (4 * q + 2))), .ref 541]) dL_law_703 lk_L_129 (by decide) rfl (h_round hfl hno hno2 hm0 h541 hC m3.r) (by decide) (Nat.le_of_ble_eq_true rfl) hno lq2_no (fun v S3 I3 X3 h => by obtain ⟨rfl, _⟩ := h; exact hno2) (by omega) (by omega) ?_
  intro v S3 I3 X3 h
  obtain ⟨rfl, rfl, k, hk, hrel⟩ := h
  cases hk
  have hj := join2 (by decide) m3 hrel
  have hwr := wr_rng (rdM K (sx g (4 * q + 1)) (sx g (4 * q + 2))).1
  refine v_ist6 dL_law_706 rfl ?_
  refine v_aload_n dL_law_708 rfl ?_
  refine v_aload_n dL_law_709 rfl ?_
  refine v_iload dL_law_710 rfl ?_
  refine v_iconst dL_law_712 ?_
  refine v_iadd dL_law_713 ?_
  refine y_sld (j := 4 * q + 1) dL_law_714 (by omega) (by omega) hL9 ?_
  refine v_aload_n dL_law_715 rfl ?_
  refine v_iload dL_law_716 rfl ?_
  refine v_iconst dL_law_718 ?_
  refine v_iadd dL_law_719 ?_
  refine y_sld (j := 4 * q + 2) dL_law_720 (by omega) (by omega) hL9 ?_
  refine v_cV2 dL_law_721 lk_L_131 (by assumption) (by decide) rfl (cw (k_round hfl hM2 m1.mi hK hO (sx_rng g (4 * q + 1)) (sx_rng g (4 * q + 2)))) (by decide) (Nat.le_of_ble_eq_true rfl) ?_ rfl
  refine v_ist7 dL_law_724 rfl ?_
  refine v_aload_n dL_law_726 rfl ?_
  refine v_cV0 dL_law_727 lk_L_95 (by assumption) (by decide) rfl (k_thrown hfl hM2) (by decide) (Nat.le_of_ble_eq_true rfl) ?_ rfl
  refine v_iload dL_law_730 rfl ?_
  refine v_ic_eq (tgt := 737) dL_law_732 (by decide) (fun h732 => ?_) (fun h732 => ?_)
  · refine v_iload dL_law_737 rfl ?_
    refine v_if_ne (tgt := 754) dL_law_739 (by decide) (fun h739 => ?_) (fun h739 => ?_)
    · refine v_goto (tgt := 1470) dL_law_754 (by decide) ?_
      exact v_wide (by omega) (by omega) hno2 (nx _ _ _ _ _ ⟨_, hL2, hM2, h541, h542, hno2, m2⟩)
    · refine v_aload_n dL_law_742 rfl ?_
      refine v_iconst dL_law_743 ?_
      refine v_lald (j := 0) dL_law_744 (by assumption) (by first | rfl | omega) (by omega) ?_
      refine v_iload dL_law_745 rfl ?_
      refine v_i2l dL_law_747 ?_
      have hx3 : X3.1 541 0 = jj (wr (rdM K (sx g (4 * q + 1)) (sx g (4 * q + 2))).1) := by
        rcases hj with h9 | h9 | h9
        · exact h9.2.2
        · exfalso; omega
        · exfalso; omega
      refine v_lcmp (z := 0) dL_law_748 (by rw [hx3, lg_cmpI (by omega) (by omega), cmpI_0.mpr rfl]) ?_
      refine v_if_eq (tgt := 754) dL_law_749 (by decide) (fun h749 => ?_) (fun h749 => ?_)
      · refine v_goto (tgt := 1470) dL_law_754 (by decide) ?_
        exact v_wide (by omega) (by omega) hno2 (nx _ _ _ _ _ ⟨_, hL2, hM2, h541, h542, hno2, m2⟩)
      · exact absurd rfl h749
  · exfalso
    omega

set_option maxRecDepth 100000 in
set_option maxHeartbeats 4000000 in
theorem w_candidate {l : Launch} {g : GV} {S : SS} {I : II} {X : XX} {Z : ZZ} {bc bs q : Nat} {o6 o7 : Option Value} (hfl : l.stackTraces = false) (hL9 : gL g ≤ 2048) (hq : 4 * q + 4 ≤ gL g) (hLV : LVI S I) (nx : ∀ S2 I2 X2 p6 p7, LVI S2 I2 → V l g mL_law 18 Z bc bs 1470 [some (.ref 999999), some (.ref 0), some (.ref 508), some (.ref 541), some (.ref 542), some (.int (ii ((4 * q : Nat) : Int))), p6, p7] [] S2 I2 X2) : V l g mL_law 18 Z (2 + bc) (12 + bs) 757 [some (.ref 999999), some (.ref 0), some (.ref 508), some (.ref 541), some (.ref 542), some (.int (ii ((4 * q : Nat) : Int))), o6, o7] [] S I X := by
  obtain ⟨sl, hL, hM, h541, h542, hno, hI⟩ := hLV
  have hm0 := hL.1
  obtain ⟨m1, K1, hK, m2, m3⟩ := s_candidate (c := (sx g (4 * q + 1))) (u := (sx g (4 * q + 2))) hI
  have hC := c_candidate (g := g) (X := X) hfl hno hL hI.1 (sx_rng g (4 * q + 1)) (sx_rng g (4 * q + 2))
  have hno2 := hno
  have hL2 := hL
  have hM2 := hM
  have hm8 := hM2.1
  refine v_aload_n dL_law_757 rfl ?_
  refine v_aload_n dL_law_758 rfl ?_
  refine v_iload dL_law_759 rfl ?_
  refine v_iconst dL_law_761 ?_
  refine v_iadd dL_law_762 ?_
  refine y_sld (j := 4 * q + 1) dL_law_763 (by omega) (by omega) hL9 ?_
  refine v_aload_n dL_law_764 rfl ?_
  refine v_iload dL_law_765 rfl ?_
  refine v_iconst dL_law_767 ?_
  refine v_iadd dL_law_768 ?_
  refine y_sld (j := 4 * q + 2) dL_law_769 (by omega) (by omega) hL9 ?_
  refine v_aload_n dL_law_770 rfl ?_
  refine v_callW (bc2 := 1 + bc) (bs2 := 6 + bs) (As := [.ref 0, .int (ii (sx g (4 * q + 1))), .int (ii (sx g (4 * q + 2))), .ref 541]) dL_law_771 lk_L_132 (by decide) rfl (h_candidate hfl hno hno2 hm0 h541 hC m3.r) (by decide) (Nat.le_of_ble_eq_true rfl) hno lq2_no (fun v S3 I3 X3 h => by obtain ⟨rfl, _⟩ := h; exact hno2) (by omega) (by omega) ?_
  intro v S3 I3 X3 h
  obtain ⟨rfl, rfl, k, hk, hrel⟩ := h
  cases hk
  have hj := join2 (by decide) m3 hrel
  have hwr := wr_rng (if tCd (cdR I (sx g (4 * q + 1)) (sx g (4 * q + 2))).2 (sx g (4 * q + 1)) (sx g (4 * q + 2)) ≤ 0 then (cdM K1 (sx g (4 * q + 1)) (sx g (4 * q + 2)), K1) else (0, up (cdR I (sx g (4 * q + 1)) (sx g (4 * q + 2))).2 508 6 (tCd (cdR I (sx g (4 * q + 1)) (sx g (4 * q + 2))).2 (sx g (4 * q + 1)) (sx g (4 * q + 2))))).1
  refine v_ist6 dL_law_774 rfl ?_
  refine v_aload_n dL_law_776 rfl ?_
  refine v_aload_n dL_law_777 rfl ?_
  refine v_iload dL_law_778 rfl ?_
  refine v_iconst dL_law_780 ?_
  refine v_iadd dL_law_781 ?_
  refine y_sld (j := 4 * q + 1) dL_law_782 (by omega) (by omega) hL9 ?_
  refine v_aload_n dL_law_783 rfl ?_
  refine v_iload dL_law_784 rfl ?_
  refine v_iconst dL_law_786 ?_
  refine v_iadd dL_law_787 ?_
  refine y_sld (j := 4 * q + 2) dL_law_788 (by omega) (by omega) hL9 ?_
  refine v_cV2 dL_law_789 lk_L_134 (by assumption) (by decide) rfl (cw (k_candidate hfl hM2 m1.mi hK (sx_rng g (4 * q + 1)) (sx_rng g (4 * q + 2)))) (by decide) (Nat.le_of_ble_eq_true rfl) ?_ rfl
  refine v_ist7 dL_law_792 rfl ?_
  refine v_aload_n dL_law_794 rfl ?_
  refine v_cV0 dL_law_795 lk_L_95 (by assumption) (by decide) rfl (k_thrown hfl hM2) (by decide) (Nat.le_of_ble_eq_true rfl) ?_ rfl
  refine v_iload dL_law_798 rfl ?_
  refine v_ic_eq (tgt := 805) dL_law_800 (by decide) (fun h800 => ?_) (fun h800 => ?_)
  · refine v_iload dL_law_805 rfl ?_
    refine v_if_ne (tgt := 822) dL_law_807 (by decide) (fun h807 => ?_) (fun h807 => ?_)
    · refine v_goto (tgt := 1470) dL_law_822 (by decide) ?_
      exact v_wide (by omega) (by omega) hno2 (nx _ _ _ _ _ ⟨_, hL2, hM2, h541, h542, hno2, m2⟩)
    · refine v_aload_n dL_law_810 rfl ?_
      refine v_iconst dL_law_811 ?_
      refine v_lald (j := 0) dL_law_812 (by assumption) (by first | rfl | omega) (by omega) ?_
      refine v_iload dL_law_813 rfl ?_
      refine v_i2l dL_law_815 ?_
      have hx3 : X3.1 541 0 = jj (wr (if tCd (cdR I (sx g (4 * q + 1)) (sx g (4 * q + 2))).2 (sx g (4 * q + 1)) (sx g (4 * q + 2)) ≤ 0 then (cdM K1 (sx g (4 * q + 1)) (sx g (4 * q + 2)), K1) else (0, up (cdR I (sx g (4 * q + 1)) (sx g (4 * q + 2))).2 508 6 (tCd (cdR I (sx g (4 * q + 1)) (sx g (4 * q + 2))).2 (sx g (4 * q + 1)) (sx g (4 * q + 2))))).1) := by
        rcases hj with h9 | h9 | h9
        · exact h9.2.2
        · exfalso; omega
        · exfalso; omega
      refine v_lcmp (z := 0) dL_law_816 (by rw [hx3, lg_cmpI (by omega) (by omega), cmpI_0.mpr rfl]) ?_
      refine v_if_eq (tgt := 822) dL_law_817 (by decide) (fun h817 => ?_) (fun h817 => ?_)
      · refine v_goto (tgt := 1470) dL_law_822 (by decide) ?_
        exact v_wide (by omega) (by omega) hno2 (nx _ _ _ _ _ ⟨_, hL2, hM2, h541, h542, hno2, m2⟩)
      · exact absurd rfl h817
  · exfalso
    omega

set_option maxRecDepth 100000 in
set_option maxHeartbeats 4000000 in
theorem w_elected {l : Launch} {g : GV} {S : SS} {I : II} {X : XX} {Z : ZZ} {bc bs q : Nat} {o6 o7 : Option Value} (hfl : l.stackTraces = false) (hL9 : gL g ≤ 2048) (hq : 4 * q + 4 ≤ gL g) (hLV : LVI S I) (nx : ∀ S2 I2 X2 p6 p7, LVI S2 I2 → V l g mL_law 18 Z bc bs 1470 [some (.ref 999999), some (.ref 0), some (.ref 508), some (.ref 541), some (.ref 542), some (.int (ii ((4 * q : Nat) : Int))), p6, p7] [] S2 I2 X2) : V l g mL_law 18 Z (2 + bc) (12 + bs) 825 [some (.ref 999999), some (.ref 0), some (.ref 508), some (.ref 541), some (.ref 542), some (.int (ii ((4 * q : Nat) : Int))), o6, o7] [] S I X := by
  obtain ⟨sl, hL, hM, h541, h542, hno, hI⟩ := hLV
  have hm0 := hL.1
  obtain ⟨m1, K, hK, hO, m2, m3⟩ := s_elected (z := (sx g (4 * q + 1))) hI
  have hC := c_elected (g := g) (X := X) hfl hno hL hI.1 (sx_rng g (4 * q + 1))
  have hno2 := hno
  have hL2 := hL
  have hM2 := hM
  have hm8 := hM2.1
  refine v_aload_n dL_law_825 rfl ?_
  refine v_aload_n dL_law_826 rfl ?_
  refine v_iload dL_law_827 rfl ?_
  refine v_iconst dL_law_829 ?_
  refine v_iadd dL_law_830 ?_
  refine y_sld (j := 4 * q + 1) dL_law_831 (by omega) (by omega) hL9 ?_
  refine v_aload_n dL_law_832 rfl ?_
  refine v_callW (bc2 := 1 + bc) (bs2 := 6 + bs) (As := [.ref 0, .int (ii (sx g (4 * q + 1))), .ref 541]) dL_law_833 lk_L_135 (by decide) rfl (h_elected hfl hno hno2 hm0 h541 hC m3.r) (by decide) (Nat.le_of_ble_eq_true rfl) hno lq1_no (fun v S3 I3 X3 h => by obtain ⟨rfl, _⟩ := h; exact hno2) (by omega) (by omega) ?_
  intro v S3 I3 X3 h
  obtain ⟨rfl, rfl, k, hk, hrel⟩ := h
  cases hk
  have hj := join1 m3 hrel
  have hwr := wr_rng (edM K (sx g (4 * q + 1))).1
  refine v_ist6 dL_law_836 rfl ?_
  refine v_aload_n dL_law_838 rfl ?_
  refine v_aload_n dL_law_839 rfl ?_
  refine v_iload dL_law_840 rfl ?_
  refine v_iconst dL_law_842 ?_
  refine v_iadd dL_law_843 ?_
  refine y_sld (j := 4 * q + 1) dL_law_844 (by omega) (by omega) hL9 ?_
  refine v_cV1 dL_law_845 lk_L_137 (by assumption) (by decide) rfl (cw (k_elected hfl hM2 m1.mi hK hO (sx_rng g (4 * q + 1)))) (by decide) (Nat.le_of_ble_eq_true rfl) ?_ rfl
  refine v_ist7 dL_law_848 rfl ?_
  refine v_aload_n dL_law_850 rfl ?_
  refine v_cV0 dL_law_851 lk_L_95 (by assumption) (by decide) rfl (k_thrown hfl hM2) (by decide) (Nat.le_of_ble_eq_true rfl) ?_ rfl
  refine v_iload dL_law_854 rfl ?_
  refine v_ic_eq (tgt := 861) dL_law_856 (by decide) (fun h856 => ?_) (fun h856 => ?_)
  · refine v_iload dL_law_861 rfl ?_
    refine v_if_ne (tgt := 878) dL_law_863 (by decide) (fun h863 => ?_) (fun h863 => ?_)
    · refine v_goto (tgt := 1470) dL_law_878 (by decide) ?_
      exact v_wide (by omega) (by omega) hno2 (nx _ _ _ _ _ ⟨_, hL2, hM2, h541, h542, hno2, m2⟩)
    · refine v_aload_n dL_law_866 rfl ?_
      refine v_iconst dL_law_867 ?_
      refine v_lald (j := 0) dL_law_868 (by assumption) (by first | rfl | omega) (by omega) ?_
      refine v_iload dL_law_869 rfl ?_
      refine v_i2l dL_law_871 ?_
      have hx3 : X3.1 541 0 = jj (wr (edM K (sx g (4 * q + 1))).1) := by
        rcases hj with h9 | h9
        · exact h9.2.2
        · exfalso; omega
      refine v_lcmp (z := 0) dL_law_872 (by rw [hx3, lg_cmpI (by omega) (by omega), cmpI_0.mpr rfl]) ?_
      refine v_if_eq (tgt := 878) dL_law_873 (by decide) (fun h873 => ?_) (fun h873 => ?_)
      · refine v_goto (tgt := 1470) dL_law_878 (by decide) ?_
        exact v_wide (by omega) (by omega) hno2 (nx _ _ _ _ _ ⟨_, hL2, hM2, h541, h542, hno2, m2⟩)
      · exact absurd rfl h873
  · exfalso
    omega

set_option maxRecDepth 100000 in
set_option maxHeartbeats 4000000 in
theorem w_where {l : Launch} {g : GV} {S : SS} {I : II} {X : XX} {Z : ZZ} {bc bs q : Nat} {o6 o7 : Option Value} (hfl : l.stackTraces = false) (hL9 : gL g ≤ 2048) (hq : 4 * q + 4 ≤ gL g) (hLV : LVI S I) (nx : ∀ S2 I2 X2 p6 p7, LVI S2 I2 → V l g mL_law 18 Z bc bs 1470 [some (.ref 999999), some (.ref 0), some (.ref 508), some (.ref 541), some (.ref 542), some (.int (ii ((4 * q : Nat) : Int))), p6, p7] [] S2 I2 X2) : V l g mL_law 18 Z (2 + bc) (12 + bs) 881 [some (.ref 999999), some (.ref 0), some (.ref 508), some (.ref 541), some (.ref 542), some (.int (ii ((4 * q : Nat) : Int))), o6, o7] [] S I X := by
  obtain ⟨sl, hL, hM, h541, h542, hno, hI⟩ := hLV
  have hm0 := hL.1
  obtain ⟨m1, K, hK, hO, m2, m3⟩ := s_where (z := (sx g (4 * q + 1))) (p := (sx g (4 * q + 2))) (c := (sx g (4 * q + 3))) hI
  have hC := c_where (g := g) (X := X) hfl hno hL hI.1 (sx_rng g (4 * q + 1)) (sx_rng g (4 * q + 2)) (sx_rng g (4 * q + 3))
  have hno2 := hno
  have hL2 := hL
  have hM2 := hM
  have hm8 := hM2.1
  refine v_aload_n dL_law_881 rfl ?_
  refine v_aload_n dL_law_882 rfl ?_
  refine v_iload dL_law_883 rfl ?_
  refine v_iconst dL_law_885 ?_
  refine v_iadd dL_law_886 ?_
  refine y_sld (j := 4 * q + 1) dL_law_887 (by omega) (by omega) hL9 ?_
  refine v_aload_n dL_law_888 rfl ?_
  refine v_iload dL_law_889 rfl ?_
  refine v_iconst dL_law_891 ?_
  refine v_iadd dL_law_892 ?_
  refine y_sld (j := 4 * q + 2) dL_law_893 (by omega) (by omega) hL9 ?_
  refine v_aload_n dL_law_894 rfl ?_
  refine v_iload dL_law_895 rfl ?_
  refine v_iconst dL_law_897 ?_
  refine v_iadd dL_law_898 ?_
  refine y_sld (j := 4 * q + 3) dL_law_899 (by omega) (by omega) hL9 ?_
  refine v_aload_n dL_law_900 rfl ?_
  refine v_callW (bc2 := 1 + bc) (bs2 := 6 + bs) (As := [.ref 0, .int (ii (sx g (4 * q + 1))), .int (ii (sx g (4 * q + 2))), .int (ii (sx g (4 * q + 3))), .ref 541]) dL_law_901 lk_L_138 (by decide) rfl (h_where hfl hno hno2 hm0 h541 hC m3.r) (by decide) (Nat.le_of_ble_eq_true rfl) hno lq2_no (fun v S3 I3 X3 h => by obtain ⟨rfl, _⟩ := h; exact hno2) (by omega) (by omega) ?_
  intro v S3 I3 X3 h
  obtain ⟨rfl, rfl, k, hk, hrel⟩ := h
  cases hk
  have hj := join2 (by decide) m3 hrel
  have hwr := wr_rng (whM K (sx g (4 * q + 1)) (sx g (4 * q + 2)) (sx g (4 * q + 3))).1
  refine v_ist6 dL_law_904 rfl ?_
  refine v_aload_n dL_law_906 rfl ?_
  refine v_aload_n dL_law_907 rfl ?_
  refine v_iload dL_law_908 rfl ?_
  refine v_iconst dL_law_910 ?_
  refine v_iadd dL_law_911 ?_
  refine y_sld (j := 4 * q + 1) dL_law_912 (by omega) (by omega) hL9 ?_
  refine v_aload_n dL_law_913 rfl ?_
  refine v_iload dL_law_914 rfl ?_
  refine v_iconst dL_law_916 ?_
  refine v_iadd dL_law_917 ?_
  refine y_sld (j := 4 * q + 2) dL_law_918 (by omega) (by omega) hL9 ?_
  refine v_aload_n dL_law_919 rfl ?_
  refine v_iload dL_law_920 rfl ?_
  refine v_iconst dL_law_922 ?_
  refine v_iadd dL_law_923 ?_
  refine y_sld (j := 4 * q + 3) dL_law_924 (by omega) (by omega) hL9 ?_
  refine v_cV3 dL_law_925 lk_L_141 (by assumption) (by decide) rfl (cw (k_where hfl hM2 m1.mi hK hO (sx_rng g (4 * q + 1)) (sx_rng g (4 * q + 2)) (sx_rng g (4 * q + 3)))) (by decide) (Nat.le_of_ble_eq_true rfl) ?_ rfl
  refine v_ist7 dL_law_928 rfl ?_
  refine v_aload_n dL_law_930 rfl ?_
  refine v_cV0 dL_law_931 lk_L_95 (by assumption) (by decide) rfl (k_thrown hfl hM2) (by decide) (Nat.le_of_ble_eq_true rfl) ?_ rfl
  refine v_iload dL_law_934 rfl ?_
  refine v_ic_eq (tgt := 941) dL_law_936 (by decide) (fun h936 => ?_) (fun h936 => ?_)
  · refine v_iload dL_law_941 rfl ?_
    refine v_if_ne (tgt := 958) dL_law_943 (by decide) (fun h943 => ?_) (fun h943 => ?_)
    · refine v_goto (tgt := 1470) dL_law_958 (by decide) ?_
      exact v_wide (by omega) (by omega) hno2 (nx _ _ _ _ _ ⟨_, hL2, hM2, h541, h542, hno2, m2⟩)
    · refine v_aload_n dL_law_946 rfl ?_
      refine v_iconst dL_law_947 ?_
      refine v_lald (j := 0) dL_law_948 (by assumption) (by first | rfl | omega) (by omega) ?_
      refine v_iload dL_law_949 rfl ?_
      refine v_i2l dL_law_951 ?_
      have hx3 : X3.1 541 0 = jj (wr (whM K (sx g (4 * q + 1)) (sx g (4 * q + 2)) (sx g (4 * q + 3))).1) := by
        rcases hj with h9 | h9 | h9
        · exact h9.2.2
        · exfalso; omega
        · exfalso; omega
      refine v_lcmp (z := 0) dL_law_952 (by rw [hx3, lg_cmpI (by omega) (by omega), cmpI_0.mpr rfl]) ?_
      refine v_if_eq (tgt := 958) dL_law_953 (by decide) (fun h953 => ?_) (fun h953 => ?_)
      · refine v_goto (tgt := 1470) dL_law_958 (by decide) ?_
        exact v_wide (by omega) (by omega) hno2 (nx _ _ _ _ _ ⟨_, hL2, hM2, h541, h542, hno2, m2⟩)
      · exact absurd rfl h953
  · exfalso
    omega

set_option maxRecDepth 100000 in
set_option maxHeartbeats 4000000 in
theorem w_share {l : Launch} {g : GV} {S : SS} {I : II} {X : XX} {Z : ZZ} {bc bs q : Nat} {o6 o7 : Option Value} (hfl : l.stackTraces = false) (hL9 : gL g ≤ 2048) (hq : 4 * q + 4 ≤ gL g) (hLV : LVI S I) (nx : ∀ S2 I2 X2 p6 p7, LVI S2 I2 → V l g mL_law 18 Z bc bs 1470 [some (.ref 999999), some (.ref 0), some (.ref 508), some (.ref 541), some (.ref 542), some (.int (ii ((4 * q : Nat) : Int))), p6, p7] [] S2 I2 X2) : V l g mL_law 18 Z (2 + bc) (12 + bs) 961 [some (.ref 999999), some (.ref 0), some (.ref 508), some (.ref 541), some (.ref 542), some (.int (ii ((4 * q : Nat) : Int))), o6, o7] [] S I X := by
  obtain ⟨sl, hL, hM, h541, h542, hno, hI⟩ := hLV
  have hm0 := hL.1
  obtain ⟨m1, K, hK, hO, m2, m3⟩ := s_share (z := (sx g (4 * q + 1))) (c := (sx g (4 * q + 2))) hI
  have hC := c_share (g := g) (X := X) hfl hno hL hI.1 (sx_rng g (4 * q + 1)) (sx_rng g (4 * q + 2)) hfd
  have hno2 := hno
  have hL2 := hL
  have hM2 := hM
  have hm8 := hM2.1
  have hW9 := m2.mi.1
  have hps : 0 ≤ mPs K ∧ mPs K ≤ 2475 := by
    have e9 : mPs (up K 508 6 (tSh K (sx g (4 * q + 1)) (sx g (4 * q + 2)))) = mPs K := mPs_s (up_ne (by omega))
    rw [← e9]
    have hs9 := sumTo_b (f := mSz (up K 508 6 (tSh K (sx g (4 * q + 1)) (sx g (4 * q + 2))))) (n := 25) (fun p hp => hW9.2.2.2.1 p hp) (up K 508 6 (tSh K (sx g (4 * q + 1)) (sx g (4 * q + 2))) 509 1).toNat (by have := hW9.2.1; omega)
    have h25 := hW9.2.1
    have hN : (((up K 508 6 (tSh K (sx g (4 * q + 1)) (sx g (4 * q + 2))) 509 1).toNat : Nat) : Int) ≤ 25 := by omega
    refine ⟨hs9.1, Int.le_trans hs9.2 ?_⟩
    omega
  have hpos : tSh K (sx g (4 * q + 1)) (sx g (4 * q + 2)) ≤ 0 → 0 < mPs K * 10000 := by
    intro h9
    have h8 : ¬ mPs K = 0 := by
      intro h7
      unfold tSh at h9
      split at h9
      · omega
      · first | omega | (rw [if_pos h7] at h9; omega)
    omega
  have hlt : mPs K * 10000 < 2147483648 := by omega
  have hsf : vf_n32 (shM K (sx g (4 * q + 1)) (sx g (4 * q + 2))) := by
    unfold shM
    split
    · refine hfd _ _ ?_ ?_
      · exact hpos (by assumption)
      · exact hlt
    · rw [n32_iff]; decide
  have hrf : RF IOB ARI (shR I (sx g (4 * q + 1)) (sx g (4 * q + 2))) := by
    rcases m3 with ⟨h1, _⟩ | ⟨h1, _⟩ | ⟨h1, _⟩
    · refine Or.inl ⟨_, f2d_n64 ?_, h1⟩
      exact hsf
    · exact Or.inr (Or.inl h1)
    · exact Or.inr (Or.inr h1)
  refine v_aload_n dL_law_961 rfl ?_
  refine v_aload_n dL_law_962 rfl ?_
  refine v_iload dL_law_963 rfl ?_
  refine v_iconst dL_law_965 ?_
  refine v_iadd dL_law_966 ?_
  refine y_sld (j := 4 * q + 1) dL_law_967 (by omega) (by omega) hL9 ?_
  refine v_aload_n dL_law_968 rfl ?_
  refine v_iload dL_law_969 rfl ?_
  refine v_iconst dL_law_971 ?_
  refine v_iadd dL_law_972 ?_
  refine y_sld (j := 4 * q + 2) dL_law_973 (by omega) (by omega) hL9 ?_
  refine v_aload dL_law_974 rfl ?_
  refine v_callW (bc2 := 0 + bc) (bs2 := 0 + bs) (As := [.ref 0, .int (ii (sx g (4 * q + 1))), .int (ii (sx g (4 * q + 2))), .ref 542]) dL_law_976 lk_L_142 (by decide) rfl (h_share hfl hno hno2 hm0 h542 hC hrf) (by decide) (Nat.le_of_ble_eq_true rfl) hno lqf_no (fun v S3 I3 X3 h => by obtain ⟨rfl, _⟩ := h; exact hno2) (by omega) (by omega) ?_
  intro v S3 I3 X3 h
  obtain ⟨rfl, rfl, k, hk, hrel⟩ := h
  cases hk
  have hj := joinF m3 hrel
  refine v_ist6 dL_law_979 rfl ?_
  refine v_aload_n dL_law_981 rfl ?_
  refine v_aload_n dL_law_982 rfl ?_
  refine v_iload dL_law_983 rfl ?_
  refine v_iconst dL_law_985 ?_
  refine v_iadd dL_law_986 ?_
  refine y_sld (j := 4 * q + 1) dL_law_987 (by omega) (by omega) hL9 ?_
  refine v_aload_n dL_law_988 rfl ?_
  refine v_iload dL_law_989 rfl ?_
  refine v_iconst dL_law_991 ?_
  refine v_iadd dL_law_992 ?_
  refine y_sld (j := 4 * q + 2) dL_law_993 (by omega) (by omega) hL9 ?_
  refine v_cV2 dL_law_994 lk_L_145 (by assumption) (by decide) rfl (k_share hfl hM2 m1.mi hK hO (sx_rng g (4 * q + 1)) (sx_rng g (4 * q + 2)) hfd) (by decide) (Nat.le_of_ble_eq_true rfl) ?_ rfl
  refine v_fst7 dL_law_997 rfl ?_
  refine v_aload_n dL_law_999 rfl ?_
  refine v_cV0 dL_law_1000 lk_L_95 (by assumption) (by decide) rfl (k_thrown hfl hM2) (by decide) (Nat.le_of_ble_eq_true rfl) ?_ rfl
  refine v_iload dL_law_1003 rfl ?_
  refine v_ic_eq (tgt := 1010) dL_law_1005 (by decide) (fun h1005 => ?_) (fun h1005 => ?_)
  · refine v_iload dL_law_1010 rfl ?_
    refine v_if_ne (tgt := 1048) dL_law_1012 (by decide) (fun h1012 => ?_) (fun h1012 => ?_)
    · refine v_goto (tgt := 1470) dL_law_1048 (by decide) ?_
      exact v_wide (by omega) (by omega) hno2 (nx _ _ _ _ _ ⟨_, hL2, hM2, h541, h542, hno2, m2⟩)
    · refine v_aload dL_law_1015 rfl ?_
      refine v_iconst dL_law_1017 ?_
      refine v_dald (j := 0) dL_law_1018 (by assumption) (by first | rfl | omega) (by omega) ?_
      refine v_fload dL_law_1019 rfl ?_
      refine v_f2d dL_law_1021 (f2d_n64 hsf) ?_
      have hx3 : X3.2 542 0 = FP.f2d (shM K (sx g (4 * q + 1)) (sx g (4 * q + 2))) := by
        rcases hj with h9 | h9 | h9
        · exact h9.2.2
        · exfalso; omega
        · exfalso; omega
      refine v_dcmp dL_law_1022 ?_
      rw [hx3, dcmp_self (f2d_n64 hsf)]
      refine v_if_eq (tgt := 1048) dL_law_1023 (by decide) (fun h1023 => ?_) (fun h1023 => ?_)
      · refine v_goto (tgt := 1470) dL_law_1048 (by decide) ?_
        exact v_wide (by omega) (by omega) hno2 (nx _ _ _ _ _ ⟨_, hL2, hM2, h541, h542, hno2, m2⟩)
      · exact absurd rfl h1023
  · exfalso
    omega

set_option maxRecDepth 100000 in
set_option maxHeartbeats 4000000 in
theorem w_preferring {l : Launch} {g : GV} {S : SS} {I : II} {X : XX} {Z : ZZ} {bc bs q : Nat} {o6 o7 : Option Value} (hfl : l.stackTraces = false) (hL9 : gL g ≤ 2048) (hq : 4 * q + 4 ≤ gL g) (hLV : LVI S I) (nx : ∀ S2 I2 X2 p6 p7, LVI S2 I2 → V l g mL_law 18 Z bc bs 1470 [some (.ref 999999), some (.ref 0), some (.ref 508), some (.ref 541), some (.ref 542), some (.int (ii ((4 * q : Nat) : Int))), p6, p7] [] S2 I2 X2) : V l g mL_law 18 Z (2 + bc) (12 + bs) 1051 [some (.ref 999999), some (.ref 0), some (.ref 508), some (.ref 541), some (.ref 542), some (.int (ii ((4 * q : Nat) : Int))), o6, o7] [] S I X := by
  obtain ⟨sl, hL, hM, h541, h542, hno, hI⟩ := hLV
  have hm0 := hL.1
  obtain ⟨e2, m2, m3⟩ := s_preferring (c := (sx g (4 * q + 1))) (o := (sx g (4 * q + 2))) hI
  have hC := c_preferring (g := g) (X := X) hfl hno hL hI.1 (sx_rng g (4 * q + 1)) (sx_rng g (4 * q + 2))
  have hno2 := hno
  have hL2 := hL
  have hM2 := hM
  have hm8 := hM2.1
  refine v_aload_n dL_law_1051 rfl ?_
  refine v_aload_n dL_law_1052 rfl ?_
  refine v_iload dL_law_1053 rfl ?_
  refine v_iconst dL_law_1055 ?_
  refine v_iadd dL_law_1056 ?_
  refine y_sld (j := 4 * q + 1) dL_law_1057 (by omega) (by omega) hL9 ?_
  refine v_aload_n dL_law_1058 rfl ?_
  refine v_iload dL_law_1059 rfl ?_
  refine v_iconst dL_law_1061 ?_
  refine v_iadd dL_law_1062 ?_
  refine y_sld (j := 4 * q + 2) dL_law_1063 (by omega) (by omega) hL9 ?_
  refine v_aload_n dL_law_1064 rfl ?_
  refine v_callW (bc2 := 1 + bc) (bs2 := 6 + bs) (As := [.ref 0, .int (ii (sx g (4 * q + 1))), .int (ii (sx g (4 * q + 2))), .ref 541]) dL_law_1065 lk_L_146 (by decide) rfl (h_preferring hfl hno hno2 hm0 h541 hC m3.r) (by decide) (Nat.le_of_ble_eq_true rfl) hno lq1_no (fun v S3 I3 X3 h => by obtain ⟨rfl, _⟩ := h; exact hno2) (by omega) (by omega) ?_
  intro v S3 I3 X3 h
  obtain ⟨rfl, rfl, k, hk, hrel⟩ := h
  cases hk
  rw [e2]
  have hj := join1 m3 hrel
  have hwr := wr_rng (pfM I (sx g (4 * q + 1)) (sx g (4 * q + 2))).1
  refine v_ist6 dL_law_1068 rfl ?_
  refine v_aload_n dL_law_1070 rfl ?_
  refine v_aload_n dL_law_1071 rfl ?_
  refine v_iload dL_law_1072 rfl ?_
  refine v_iconst dL_law_1074 ?_
  refine v_iadd dL_law_1075 ?_
  refine y_sld (j := 4 * q + 1) dL_law_1076 (by omega) (by omega) hL9 ?_
  refine v_aload_n dL_law_1077 rfl ?_
  refine v_iload dL_law_1078 rfl ?_
  refine v_iconst dL_law_1080 ?_
  refine v_iadd dL_law_1081 ?_
  refine y_sld (j := 4 * q + 2) dL_law_1082 (by omega) (by omega) hL9 ?_
  refine v_cV2 dL_law_1083 lk_L_148 (by assumption) (by decide) rfl (cw (k_preferring hfl hM2 hI.mi (sx_rng g (4 * q + 1)) (sx_rng g (4 * q + 2)))) (by decide) (Nat.le_of_ble_eq_true rfl) ?_ rfl
  refine v_ist7 dL_law_1086 rfl ?_
  refine v_aload_n dL_law_1088 rfl ?_
  refine v_cV0 dL_law_1089 lk_L_95 (by assumption) (by decide) rfl (k_thrown hfl hM2) (by decide) (Nat.le_of_ble_eq_true rfl) ?_ rfl
  refine v_iload dL_law_1092 rfl ?_
  refine v_ic_eq (tgt := 1099) dL_law_1094 (by decide) (fun h1094 => ?_) (fun h1094 => ?_)
  · refine v_iload dL_law_1099 rfl ?_
    refine v_if_ne (tgt := 1116) dL_law_1101 (by decide) (fun h1101 => ?_) (fun h1101 => ?_)
    · refine v_goto (tgt := 1470) dL_law_1116 (by decide) ?_
      exact v_wide (by omega) (by omega) hno2 (nx _ _ _ _ _ ⟨_, hL2, hM2, h541, h542, hno2, m2⟩)
    · refine v_aload_n dL_law_1104 rfl ?_
      refine v_iconst dL_law_1105 ?_
      refine v_lald (j := 0) dL_law_1106 (by assumption) (by first | rfl | omega) (by omega) ?_
      refine v_iload dL_law_1107 rfl ?_
      refine v_i2l dL_law_1109 ?_
      have hx3 : X3.1 541 0 = jj (wr (pfM I (sx g (4 * q + 1)) (sx g (4 * q + 2))).1) := by
        rcases hj with h9 | h9
        · exact h9.2.2
        · exfalso; omega
      refine v_lcmp (z := 0) dL_law_1110 (by rw [hx3, lg_cmpI (by omega) (by omega), cmpI_0.mpr rfl]) ?_
      refine v_if_eq (tgt := 1116) dL_law_1111 (by decide) (fun h1111 => ?_) (fun h1111 => ?_)
      · refine v_goto (tgt := 1470) dL_law_1116 (by decide) ?_
        exact v_wide (by omega) (by omega) hno2 (nx _ _ _ _ _ ⟨_, hL2, hM2, h541, h542, hno2, m2⟩)
      · exact absurd rfl h1111
  · exfalso
    omega

set_option maxRecDepth 100000 in
set_option maxHeartbeats 4000000 in
theorem w_beatsAll {l : Launch} {g : GV} {S : SS} {I : II} {X : XX} {Z : ZZ} {bc bs q : Nat} {o6 o7 : Option Value} (hfl : l.stackTraces = false) (hL9 : gL g ≤ 2048) (hq : 4 * q + 4 ≤ gL g) (hLV : LVI S I) (nx : ∀ S2 I2 X2 p6 p7, LVI S2 I2 → V l g mL_law 18 Z bc bs 1470 [some (.ref 999999), some (.ref 0), some (.ref 508), some (.ref 541), some (.ref 542), some (.int (ii ((4 * q : Nat) : Int))), p6, p7] [] S2 I2 X2) : V l g mL_law 18 Z (2 + bc) (12 + bs) 1119 [some (.ref 999999), some (.ref 0), some (.ref 508), some (.ref 541), some (.ref 542), some (.int (ii ((4 * q : Nat) : Int))), o6, o7] [] S I X := by
  obtain ⟨sl, hL, hM, h541, h542, hno, hI⟩ := hLV
  have hm0 := hL.1
  have hno2 := hno
  have hL2 := hL
  have hM2 := hM
  have hm8 := hM.1
  obtain ⟨m2, m3⟩ := s_beatsAll hI
  have hr9 := wr_rng (baF I (I 1 0).toNat 0)
  refine v_aload_n dL_law_1119 rfl ?_
  refine v_cV0 dL_law_1120 lk_L_149 (by assumption) (by decide) rfl (cw (c_beatsAll hfl hL hI.1.1)) (by decide) (Nat.le_of_ble_eq_true rfl) ?_ rfl
  refine v_aload_n dL_law_1123 rfl ?_
  refine v_cV0 dL_law_1124 lk_L_152 (by assumption) (by decide) rfl (cw (k_beatsAll hfl hM hI.mi)) (by decide) (Nat.le_of_ble_eq_true rfl) ?_ rfl
  rw [← m3]
  refine v_ic_eq (tgt := 1470) dL_law_1127 (by decide) (fun h1127 => ?_) (fun h1127 => ?_)
  · exact v_wide (by omega) (by omega) hno2 (nx _ _ _ _ _ ⟨_, hL2, hM2, h541, h542, hno2, m2⟩)
  · exact absurd rfl h1127

set_option maxRecDepth 100000 in
set_option maxHeartbeats 4000000 in
theorem w_points {l : Launch} {g : GV} {S : SS} {I : II} {X : XX} {Z : ZZ} {bc bs q : Nat} {o6 o7 : Option Value} (hfl : l.stackTraces = false) (hL9 : gL g ≤ 2048) (hq : 4 * q + 4 ≤ gL g) (hLV : LVI S I) (nx : ∀ S2 I2 X2 p6 p7, LVI S2 I2 → V l g mL_law 18 Z bc bs 1470 [some (.ref 999999), some (.ref 0), some (.ref 508), some (.ref 541), some (.ref 542), some (.int (ii ((4 * q : Nat) : Int))), p6, p7] [] S2 I2 X2) : V l g mL_law 18 Z (2 + bc) (12 + bs) 1132 [some (.ref 999999), some (.ref 0), some (.ref 508), some (.ref 541), some (.ref 542), some (.int (ii ((4 * q : Nat) : Int))), o6, o7] [] S I X := by
  obtain ⟨sl, hL, hM, h541, h542, hno, hI⟩ := hLV
  have hm0 := hL.1
  obtain ⟨e2, m2, m3⟩ := s_points (c := (sx g (4 * q + 1))) hI
  have hC := c_points (g := g) (X := X) hfl hno hL hI.1 (sx_rng g (4 * q + 1))
  have hno2 := hno
  have hL2 := hL
  have hM2 := hM
  have hm8 := hM2.1
  refine v_aload_n dL_law_1132 rfl ?_
  refine v_aload_n dL_law_1133 rfl ?_
  refine v_iload dL_law_1134 rfl ?_
  refine v_iconst dL_law_1136 ?_
  refine v_iadd dL_law_1137 ?_
  refine y_sld (j := 4 * q + 1) dL_law_1138 (by omega) (by omega) hL9 ?_
  refine v_aload_n dL_law_1139 rfl ?_
  refine v_callW (bc2 := 1 + bc) (bs2 := 6 + bs) (As := [.ref 0, .int (ii (sx g (4 * q + 1))), .ref 541]) dL_law_1140 lk_L_153 (by decide) rfl (h_points hfl hno hno2 hm0 h541 hC m3.r) (by decide) (Nat.le_of_ble_eq_true rfl) hno lq1_no (fun v S3 I3 X3 h => by obtain ⟨rfl, _⟩ := h; exact hno2) (by omega) (by omega) ?_
  intro v S3 I3 X3 h
  obtain ⟨rfl, rfl, k, hk, hrel⟩ := h
  cases hk
  rw [e2]
  have hj := join1 m3 hrel
  have hwr := wr_rng (ptM I (sx g (4 * q + 1))).1
  refine v_ist6 dL_law_1143 rfl ?_
  refine v_aload_n dL_law_1145 rfl ?_
  refine v_aload_n dL_law_1146 rfl ?_
  refine v_iload dL_law_1147 rfl ?_
  refine v_iconst dL_law_1149 ?_
  refine v_iadd dL_law_1150 ?_
  refine y_sld (j := 4 * q + 1) dL_law_1151 (by omega) (by omega) hL9 ?_
  refine v_cV1 dL_law_1152 lk_L_155 (by assumption) (by decide) rfl (cw (k_points hfl hM2 hI.mi (sx_rng g (4 * q + 1)))) (by decide) (Nat.le_of_ble_eq_true rfl) ?_ rfl
  refine v_ist7 dL_law_1155 rfl ?_
  refine v_aload_n dL_law_1157 rfl ?_
  refine v_cV0 dL_law_1158 lk_L_95 (by assumption) (by decide) rfl (k_thrown hfl hM2) (by decide) (Nat.le_of_ble_eq_true rfl) ?_ rfl
  refine v_iload dL_law_1161 rfl ?_
  refine v_ic_eq (tgt := 1168) dL_law_1163 (by decide) (fun h1163 => ?_) (fun h1163 => ?_)
  · refine v_iload dL_law_1168 rfl ?_
    refine v_if_ne (tgt := 1185) dL_law_1170 (by decide) (fun h1170 => ?_) (fun h1170 => ?_)
    · refine v_goto (tgt := 1470) dL_law_1185 (by decide) ?_
      exact v_wide (by omega) (by omega) hno2 (nx _ _ _ _ _ ⟨_, hL2, hM2, h541, h542, hno2, m2⟩)
    · refine v_aload_n dL_law_1173 rfl ?_
      refine v_iconst dL_law_1174 ?_
      refine v_lald (j := 0) dL_law_1175 (by assumption) (by first | rfl | omega) (by omega) ?_
      refine v_iload dL_law_1176 rfl ?_
      refine v_i2l dL_law_1178 ?_
      have hx3 : X3.1 541 0 = jj (wr (ptM I (sx g (4 * q + 1))).1) := by
        rcases hj with h9 | h9
        · exact h9.2.2
        · exfalso; omega
      refine v_lcmp (z := 0) dL_law_1179 (by rw [hx3, lg_cmpI (by omega) (by omega), cmpI_0.mpr rfl]) ?_
      refine v_if_eq (tgt := 1185) dL_law_1180 (by decide) (fun h1180 => ?_) (fun h1180 => ?_)
      · refine v_goto (tgt := 1470) dL_law_1185 (by decide) ?_
        exact v_wide (by omega) (by omega) hno2 (nx _ _ _ _ _ ⟨_, hL2, hM2, h541, h542, hno2, m2⟩)
      · exact absurd rfl h1180
  · exfalso
    omega

set_option maxRecDepth 100000 in
set_option maxHeartbeats 4000000 in
theorem w_declare {l : Launch} {g : GV} {S : SS} {I : II} {X : XX} {Z : ZZ} {bc bs q : Nat} {o6 o7 : Option Value} (hfl : l.stackTraces = false) (hL9 : gL g ≤ 2048) (hq : 4 * q + 4 ≤ gL g) (hLV : LVI S I) (nx : ∀ S2 I2 X2 p6 p7, LVI S2 I2 → V l g mL_law 18 Z bc bs 1470 [some (.ref 999999), some (.ref 0), some (.ref 508), some (.ref 541), some (.ref 542), some (.int (ii ((4 * q : Nat) : Int))), p6, p7] [] S2 I2 X2) : V l g mL_law 18 Z (2 + bc) (12 + bs) 1188 [some (.ref 999999), some (.ref 0), some (.ref 508), some (.ref 541), some (.ref 542), some (.int (ii ((4 * q : Nat) : Int))), o6, o7] [] S I X := by
  obtain ⟨sl, hL, hM, h541, h542, hno, hI⟩ := hLV
  have hm0 := hL.1
  have hno2 := hno
  have hL2 := hL
  have hM2 := hM
  have hm8 := hM.1
  obtain ⟨m1, K, hK, m2, m3⟩ := s_declare hI
  have hr9 := m1.2 451 1
  refine v_aload_n dL_law_1188 rfl ?_
  refine v_cV0 dL_law_1189 lk_L_156 (by assumption) (by decide) rfl (c_declare hfl hL hI.1) (by decide) (Nat.le_of_ble_eq_true rfl) ?_ rfl
  refine v_aload_n dL_law_1192 rfl ?_
  refine v_cV0 dL_law_1193 lk_L_159 (by assumption) (by decide) rfl (k_declare hfl hM m1 hK) (by decide) (Nat.le_of_ble_eq_true rfl) ?_ rfl
  rw [← m3]
  refine v_ic_eq (tgt := 1470) dL_law_1196 (by decide) (fun h1196 => ?_) (fun h1196 => ?_)
  · exact v_wide (by omega) (by omega) hno2 (nx _ _ _ _ _ ⟨_, hL2, hM2, h541, h542, hno2, m2⟩)
  · exact absurd rfl h1196

set_option maxRecDepth 100000 in
set_option maxHeartbeats 4000000 in
theorem w_recount {l : Launch} {g : GV} {S : SS} {I : II} {X : XX} {Z : ZZ} {bc bs q : Nat} {o6 o7 : Option Value} (hfl : l.stackTraces = false) (hL9 : gL g ≤ 2048) (hq : 4 * q + 4 ≤ gL g) (hLV : LVI S I) (nx : ∀ S2 I2 X2 p6 p7, LVI S2 I2 → V l g mL_law 18 Z bc bs 1470 [some (.ref 999999), some (.ref 0), some (.ref 508), some (.ref 541), some (.ref 542), some (.int (ii ((4 * q : Nat) : Int))), p6, p7] [] S2 I2 X2) : V l g mL_law 18 Z (2 + bc) (12 + bs) 1201 [some (.ref 999999), some (.ref 0), some (.ref 508), some (.ref 541), some (.ref 542), some (.int (ii ((4 * q : Nat) : Int))), o6, o7] [] S I X := by
  obtain ⟨sl, hL, hM, h541, h542, hno, hI⟩ := hLV
  have hm0 := hL.1
  obtain ⟨m1, K1, hK, m2, m3⟩ := s_recount (u := (sx g (4 * q + 1))) hI
  have hC := c_recount (g := g) (X := X) hfl hno hL hI.1 (sx_rng g (4 * q + 1))
  have hno2 := hno
  have hL2 := hL
  have hM2 := hM
  have hm8 := hM2.1
  refine v_aload_n dL_law_1201 rfl ?_
  refine v_aload_n dL_law_1202 rfl ?_
  refine v_iload dL_law_1203 rfl ?_
  refine v_iconst dL_law_1205 ?_
  refine v_iadd dL_law_1206 ?_
  refine y_sld (j := 4 * q + 1) dL_law_1207 (by omega) (by omega) hL9 ?_
  refine v_aload_n dL_law_1208 rfl ?_
  refine v_callW (bc2 := 1 + bc) (bs2 := 6 + bs) (As := [.ref 0, .int (ii (sx g (4 * q + 1))), .ref 541]) dL_law_1209 lk_L_160 (by decide) rfl (h_recount hfl hno hno2 hm0 h541 hC m3.r) (by decide) (Nat.le_of_ble_eq_true rfl) hno lq2_no (fun v S3 I3 X3 h => by obtain ⟨rfl, _⟩ := h; exact hno2) (by omega) (by omega) ?_
  intro v S3 I3 X3 h
  obtain ⟨rfl, rfl, k, hk, hrel⟩ := h
  cases hk
  have hj := join2 (by decide) m3 hrel
  have hwr := wr_rng (if tRc (rcR I (sx g (4 * q + 1))).2 (sx g (4 * q + 1)) ≤ 0 then (rcM K1 (sx g (4 * q + 1)), K1) else (0, up (rcR I (sx g (4 * q + 1))).2 508 6 (tRc (rcR I (sx g (4 * q + 1))).2 (sx g (4 * q + 1))))).1
  refine v_ist6 dL_law_1212 rfl ?_
  refine v_aload_n dL_law_1214 rfl ?_
  refine v_aload_n dL_law_1215 rfl ?_
  refine v_iload dL_law_1216 rfl ?_
  refine v_iconst dL_law_1218 ?_
  refine v_iadd dL_law_1219 ?_
  refine y_sld (j := 4 * q + 1) dL_law_1220 (by omega) (by omega) hL9 ?_
  refine v_cV1 dL_law_1221 lk_L_162 (by assumption) (by decide) rfl (cw (k_recount hfl hM2 m1.mi hK (sx_rng g (4 * q + 1)))) (by decide) (Nat.le_of_ble_eq_true rfl) ?_ rfl
  refine v_ist7 dL_law_1224 rfl ?_
  refine v_aload_n dL_law_1226 rfl ?_
  refine v_cV0 dL_law_1227 lk_L_95 (by assumption) (by decide) rfl (k_thrown hfl hM2) (by decide) (Nat.le_of_ble_eq_true rfl) ?_ rfl
  refine v_iload dL_law_1230 rfl ?_
  refine v_ic_eq (tgt := 1237) dL_law_1232 (by decide) (fun h1232 => ?_) (fun h1232 => ?_)
  · refine v_iload dL_law_1237 rfl ?_
    refine v_if_ne (tgt := 1254) dL_law_1239 (by decide) (fun h1239 => ?_) (fun h1239 => ?_)
    · refine v_goto (tgt := 1470) dL_law_1254 (by decide) ?_
      exact v_wide (by omega) (by omega) hno2 (nx _ _ _ _ _ ⟨_, hL2, hM2, h541, h542, hno2, m2⟩)
    · refine v_aload_n dL_law_1242 rfl ?_
      refine v_iconst dL_law_1243 ?_
      refine v_lald (j := 0) dL_law_1244 (by assumption) (by first | rfl | omega) (by omega) ?_
      refine v_iload dL_law_1245 rfl ?_
      refine v_i2l dL_law_1247 ?_
      have hx3 : X3.1 541 0 = jj (wr (if tRc (rcR I (sx g (4 * q + 1))).2 (sx g (4 * q + 1)) ≤ 0 then (rcM K1 (sx g (4 * q + 1)), K1) else (0, up (rcR I (sx g (4 * q + 1))).2 508 6 (tRc (rcR I (sx g (4 * q + 1))).2 (sx g (4 * q + 1))))).1) := by
        rcases hj with h9 | h9 | h9
        · exact h9.2.2
        · exfalso; omega
        · exfalso; omega
      refine v_lcmp (z := 0) dL_law_1248 (by rw [hx3, lg_cmpI (by omega) (by omega), cmpI_0.mpr rfl]) ?_
      refine v_if_eq (tgt := 1254) dL_law_1249 (by decide) (fun h1249 => ?_) (fun h1249 => ?_)
      · refine v_goto (tgt := 1470) dL_law_1254 (by decide) ?_
        exact v_wide (by omega) (by omega) hno2 (nx _ _ _ _ _ ⟨_, hL2, hM2, h541, h542, hno2, m2⟩)
      · exact absurd rfl h1249
  · exfalso
    omega

set_option maxRecDepth 100000 in
set_option maxHeartbeats 4000000 in
theorem w_needed {l : Launch} {g : GV} {S : SS} {I : II} {X : XX} {Z : ZZ} {bc bs q : Nat} {o6 o7 : Option Value} (hfl : l.stackTraces = false) (hL9 : gL g ≤ 2048) (hq : 4 * q + 4 ≤ gL g) (hLV : LVI S I) (nx : ∀ S2 I2 X2 p6 p7, LVI S2 I2 → V l g mL_law 18 Z bc bs 1470 [some (.ref 999999), some (.ref 0), some (.ref 508), some (.ref 541), some (.ref 542), some (.int (ii ((4 * q : Nat) : Int))), p6, p7] [] S2 I2 X2) : V l g mL_law 18 Z (2 + bc) (12 + bs) 1257 [some (.ref 999999), some (.ref 0), some (.ref 508), some (.ref 541), some (.ref 542), some (.int (ii ((4 * q : Nat) : Int))), o6, o7] [] S I X := by
  obtain ⟨sl, hL, hM, h541, h542, hno, hI⟩ := hLV
  have hm0 := hL.1
  obtain ⟨m1, m4, y9, K9, hK, m2, m3⟩ := s_needed (c := (sx g (4 * q + 1))) hI
  have hC := c_needed (g := g) (X := X) hfl hno hL hI.1 (sx_rng g (4 * q + 1))
  have hno2 := hno
  have hL2 := hL
  have hM2 := hM
  have hm8 := hM2.1
  refine v_aload_n dL_law_1257 rfl ?_
  refine v_aload_n dL_law_1258 rfl ?_
  refine v_iload dL_law_1259 rfl ?_
  refine v_iconst dL_law_1261 ?_
  refine v_iadd dL_law_1262 ?_
  refine y_sld (j := 4 * q + 1) dL_law_1263 (by omega) (by omega) hL9 ?_
  refine v_aload_n dL_law_1264 rfl ?_
  refine v_callW (bc2 := 1 + bc) (bs2 := 6 + bs) (As := [.ref 0, .int (ii (sx g (4 * q + 1))), .ref 541]) dL_law_1265 lk_L_163 (by decide) rfl (h_needed hfl hno hno2 hm0 h541 hC m3.r) (by decide) (Nat.le_of_ble_eq_true rfl) hno lq1_no (fun v S3 I3 X3 h => by obtain ⟨rfl, _⟩ := h; exact hno2) (by omega) (by omega) ?_
  intro v S3 I3 X3 h
  obtain ⟨rfl, rfl, k, hk, hrel⟩ := h
  cases hk
  have hj := join1 m3 hrel
  have hwr := wr_rng (if tWd (ndR I (sx g (4 * q + 1))).2 (sx g (4 * q + 1)) ≤ 0 then (y9, nmE K9) else (0, up (ndR I (sx g (4 * q + 1))).2 508 6 (tWd (ndR I (sx g (4 * q + 1))).2 (sx g (4 * q + 1))))).1
  refine v_ist6 dL_law_1268 rfl ?_
  refine v_aload_n dL_law_1270 rfl ?_
  refine v_aload_n dL_law_1271 rfl ?_
  refine v_iload dL_law_1272 rfl ?_
  refine v_iconst dL_law_1274 ?_
  refine v_iadd dL_law_1275 ?_
  refine y_sld (j := 4 * q + 1) dL_law_1276 (by omega) (by omega) hL9 ?_
  refine v_cV1 dL_law_1277 lk_L_165 (by assumption) (by decide) rfl (cw (k_needed hfl hM2 m1 m4 hK (sx_rng g (4 * q + 1)))) (by decide) (Nat.le_of_ble_eq_true rfl) ?_ rfl
  refine v_ist7 dL_law_1280 rfl ?_
  refine v_aload_n dL_law_1282 rfl ?_
  refine v_cV0 dL_law_1283 lk_L_95 (by assumption) (by decide) rfl (k_thrown hfl hM2) (by decide) (Nat.le_of_ble_eq_true rfl) ?_ rfl
  refine v_iload dL_law_1286 rfl ?_
  refine v_ic_eq (tgt := 1293) dL_law_1288 (by decide) (fun h1288 => ?_) (fun h1288 => ?_)
  · refine v_iload dL_law_1293 rfl ?_
    refine v_if_ne (tgt := 1310) dL_law_1295 (by decide) (fun h1295 => ?_) (fun h1295 => ?_)
    · refine v_goto (tgt := 1470) dL_law_1310 (by decide) ?_
      exact v_wide (by omega) (by omega) hno2 (nx _ _ _ _ _ ⟨_, hL2, hM2, h541, h542, hno2, m2⟩)
    · refine v_aload_n dL_law_1298 rfl ?_
      refine v_iconst dL_law_1299 ?_
      refine v_lald (j := 0) dL_law_1300 (by assumption) (by first | rfl | omega) (by omega) ?_
      refine v_iload dL_law_1301 rfl ?_
      refine v_i2l dL_law_1303 ?_
      have hx3 : X3.1 541 0 = jj (wr (if tWd (ndR I (sx g (4 * q + 1))).2 (sx g (4 * q + 1)) ≤ 0 then (y9, nmE K9) else (0, up (ndR I (sx g (4 * q + 1))).2 508 6 (tWd (ndR I (sx g (4 * q + 1))).2 (sx g (4 * q + 1))))).1) := by
        rcases hj with h9 | h9
        · exact h9.2.2
        · exfalso; omega
      refine v_lcmp (z := 0) dL_law_1304 (by rw [hx3, lg_cmpI (by omega) (by omega), cmpI_0.mpr rfl]) ?_
      refine v_if_eq (tgt := 1310) dL_law_1305 (by decide) (fun h1305 => ?_) (fun h1305 => ?_)
      · refine v_goto (tgt := 1470) dL_law_1310 (by decide) ?_
        exact v_wide (by omega) (by omega) hno2 (nx _ _ _ _ _ ⟨_, hL2, hM2, h541, h542, hno2, m2⟩)
      · exact absurd rfl h1305
  · exfalso
    omega

set_option maxRecDepth 100000 in
set_option maxHeartbeats 4000000 in
theorem w_undo {l : Launch} {g : GV} {S : SS} {I : II} {X : XX} {Z : ZZ} {bc bs q : Nat} {o6 o7 : Option Value} (hfl : l.stackTraces = false) (hL9 : gL g ≤ 2048) (hq : 4 * q + 4 ≤ gL g) (hLV : LVI S I) (nx : ∀ S2 I2 X2 p6 p7, LVI S2 I2 → V l g mL_law 18 Z bc bs 1470 [some (.ref 999999), some (.ref 0), some (.ref 508), some (.ref 541), some (.ref 542), some (.int (ii ((4 * q : Nat) : Int))), p6, p7] [] S2 I2 X2) : V l g mL_law 18 Z (2 + bc) (12 + bs) 1313 [some (.ref 999999), some (.ref 0), some (.ref 508), some (.ref 541), some (.ref 542), some (.int (ii ((4 * q : Nat) : Int))), o6, o7] [] S I X := by
  obtain ⟨sl, hL, hM, h541, h542, hno, hI⟩ := hLV
  have hm0 := hL.1
  obtain ⟨m4, m2, m3⟩ := s_undo  hI
  have hC := c_undo (g := g) (X := X) (zz := 0) hfl hno hL hI.1
  have hno2 := hno
  have hL2 := hL
  have hM2 := hM
  have hm8 := hM2.1
  refine v_aload_n dL_law_1313 rfl ?_
  refine v_aload_n dL_law_1314 rfl ?_
  refine v_callW (bc2 := 1 + bc) (bs2 := 6 + bs) (As := [.ref 0, .ref 541]) dL_law_1315 lk_L_166 (by decide) rfl (h_undo hfl hno hno2 hm0 h541 hC m3.r) (by decide) (Nat.le_of_ble_eq_true rfl) hno lq1_no (fun v S3 I3 X3 h => by obtain ⟨rfl, _⟩ := h; exact hno2) (by omega) (by omega) ?_
  intro v S3 I3 X3 h
  obtain ⟨rfl, rfl, k, hk, hrel⟩ := h
  cases hk
  have hj := join1 m3 hrel
  have hwr := wr_rng (unM (udR I sl).2).1
  refine v_ist6 dL_law_1318 rfl ?_
  refine v_aload_n dL_law_1320 rfl ?_
  refine v_cV0 dL_law_1321 lk_L_168 (by assumption) (by decide) rfl (cw (k_undo hfl hM2 m4)) (by decide) (Nat.le_of_ble_eq_true rfl) ?_ rfl
  refine v_ist7 dL_law_1324 rfl ?_
  refine v_aload_n dL_law_1326 rfl ?_
  refine v_cV0 dL_law_1327 lk_L_95 (by assumption) (by decide) rfl (k_thrown hfl hM2) (by decide) (Nat.le_of_ble_eq_true rfl) ?_ rfl
  refine v_iload dL_law_1330 rfl ?_
  refine v_ic_eq (tgt := 1337) dL_law_1332 (by decide) (fun h1332 => ?_) (fun h1332 => ?_)
  · refine v_iload dL_law_1337 rfl ?_
    refine v_if_ne (tgt := 1354) dL_law_1339 (by decide) (fun h1339 => ?_) (fun h1339 => ?_)
    · refine v_goto (tgt := 1470) dL_law_1354 (by decide) ?_
      exact v_wide (by omega) (by omega) hno2 (nx _ _ _ _ _ ⟨_, hL2, hM2, h541, h542, hno2, m2⟩)
    · refine v_aload_n dL_law_1342 rfl ?_
      refine v_iconst dL_law_1343 ?_
      refine v_lald (j := 0) dL_law_1344 (by assumption) (by first | rfl | omega) (by omega) ?_
      refine v_iload dL_law_1345 rfl ?_
      refine v_i2l dL_law_1347 ?_
      have hx3 : X3.1 541 0 = jj (wr (unM (udR I sl).2).1) := by
        rcases hj with h9 | h9
        · exact h9.2.2
        · exfalso; omega
      refine v_lcmp (z := 0) dL_law_1348 (by rw [hx3, lg_cmpI (by omega) (by omega), cmpI_0.mpr rfl]) ?_
      refine v_if_eq (tgt := 1354) dL_law_1349 (by decide) (fun h1349 => ?_) (fun h1349 => ?_)
      · refine v_goto (tgt := 1470) dL_law_1354 (by decide) ?_
        exact v_wide (by omega) (by omega) hno2 (nx _ _ _ _ _ ⟨_, hL2, hM2, h541, h542, hno2, m2⟩)
      · exact absurd rfl h1349
  · exfalso
    omega

set_option maxRecDepth 100000 in
set_option maxHeartbeats 4000000 in
theorem w_save {l : Launch} {g : GV} {S : SS} {I : II} {X : XX} {Z : ZZ} {bc bs q : Nat} {o6 o7 : Option Value} (hfl : l.stackTraces = false) (hL9 : gL g ≤ 2048) (hq : 4 * q + 4 ≤ gL g) (hLV : LVI S I) (nx : ∀ S2 I2 X2 p6 p7, LVI S2 I2 → V l g mL_law 18 Z bc bs 1470 [some (.ref 999999), some (.ref 0), some (.ref 508), some (.ref 541), some (.ref 542), some (.int (ii ((4 * q : Nat) : Int))), p6, p7] [] S2 I2 X2) : V l g mL_law 18 Z (2 + bc) (12 + bs) 1357 [some (.ref 999999), some (.ref 0), some (.ref 508), some (.ref 541), some (.ref 542), some (.int (ii ((4 * q : Nat) : Int))), o6, o7] [] S I X := by
  obtain ⟨sl, hL, hM, h541, h542, hno, hI⟩ := hLV
  have hm0 := hL.1
  have hno2 := hno
  have hL2 := hL
  have hM2 := hM
  have hm8 := hM.1
  obtain ⟨m1, m2, m3⟩ := s_save hI
  have hr9 := m1.2 464 4
  refine v_aload_n dL_law_1357 rfl ?_
  refine v_cV0 dL_law_1358 lk_L_169 (by assumption) (by decide) rfl (c_save hfl hL hI.1) (by decide) (Nat.le_of_ble_eq_true rfl) ?_ rfl
  refine v_aload_n dL_law_1361 rfl ?_
  refine v_cV0 dL_law_1362 lk_L_172 (by assumption) (by decide) rfl (k_save hfl hM m1) (by decide) (Nat.le_of_ble_eq_true rfl) ?_ rfl
  rw [← m3]
  refine v_ic_eq (tgt := 1470) dL_law_1365 (by decide) (fun h1365 => ?_) (fun h1365 => ?_)
  · exact v_wide (by omega) (by omega) hno2 (nx _ _ _ _ _ ⟨_, hL2, hM2, h541, h542, hno2, m2⟩)
  · exact absurd rfl h1365

set_option maxRecDepth 100000 in
set_option maxHeartbeats 4000000 in
theorem w_restore {l : Launch} {g : GV} {S : SS} {I : II} {X : XX} {Z : ZZ} {bc bs q : Nat} {o6 o7 : Option Value} (hfl : l.stackTraces = false) (hL9 : gL g ≤ 2048) (hq : 4 * q + 4 ≤ gL g) (hLV : LVI S I) (nx : ∀ S2 I2 X2 p6 p7, LVI S2 I2 → V l g mL_law 18 Z bc bs 1470 [some (.ref 999999), some (.ref 0), some (.ref 508), some (.ref 541), some (.ref 542), some (.int (ii ((4 * q : Nat) : Int))), p6, p7] [] S2 I2 X2) : V l g mL_law 18 Z (2 + bc) (12 + bs) 1370 [some (.ref 999999), some (.ref 0), some (.ref 508), some (.ref 541), some (.ref 542), some (.int (ii ((4 * q : Nat) : Int))), o6, o7] [] S I X := by
  obtain ⟨sl, hL, hM, h541, h542, hno, hI⟩ := hLV
  have hm0 := hL.1
  obtain ⟨m1, m2, m3⟩ := s_restore  hI
  have hC := c_restore (g := g) (X := X) (zz := 0) hfl hno hL hI.1
  have hno2 := hno
  have hL2 := hL
  have hM2 := hM
  have hm8 := hM2.1
  refine v_aload_n dL_law_1370 rfl ?_
  refine v_aload_n dL_law_1371 rfl ?_
  refine v_callW (bc2 := 1 + bc) (bs2 := 6 + bs) (As := [.ref 0, .ref 541]) dL_law_1372 lk_L_173 (by decide) rfl (h_restore hfl hno hno2 hm0 h541 hC m3.r) (by decide) (Nat.le_of_ble_eq_true rfl) hno lq1_no (fun v S3 I3 X3 h => by obtain ⟨rfl, _⟩ := h; exact hno2) (by omega) (by omega) ?_
  intro v S3 I3 X3 h
  obtain ⟨rfl, rfl, k, hk, hrel⟩ := h
  cases hk
  have hj := join1 m3 hrel
  have hwr := wr_rng (rsM9 (rsR I).2).1
  refine v_ist6 dL_law_1375 rfl ?_
  refine v_aload_n dL_law_1377 rfl ?_
  refine v_cV0 dL_law_1378 lk_L_175 (by assumption) (by decide) rfl (cw (k_restore hfl hM2 m1)) (by decide) (Nat.le_of_ble_eq_true rfl) ?_ rfl
  refine v_ist7 dL_law_1381 rfl ?_
  refine v_aload_n dL_law_1383 rfl ?_
  refine v_cV0 dL_law_1384 lk_L_95 (by assumption) (by decide) rfl (k_thrown hfl hM2) (by decide) (Nat.le_of_ble_eq_true rfl) ?_ rfl
  refine v_iload dL_law_1387 rfl ?_
  refine v_ic_eq (tgt := 1394) dL_law_1389 (by decide) (fun h1389 => ?_) (fun h1389 => ?_)
  · refine v_iload dL_law_1394 rfl ?_
    refine v_if_ne (tgt := 1411) dL_law_1396 (by decide) (fun h1396 => ?_) (fun h1396 => ?_)
    · refine v_goto (tgt := 1470) dL_law_1411 (by decide) ?_
      exact v_wide (by omega) (by omega) hno2 (nx _ _ _ _ _ ⟨_, hL2, hM2, h541, h542, hno2, m2⟩)
    · refine v_aload_n dL_law_1399 rfl ?_
      refine v_iconst dL_law_1400 ?_
      refine v_lald (j := 0) dL_law_1401 (by assumption) (by first | rfl | omega) (by omega) ?_
      refine v_iload dL_law_1402 rfl ?_
      refine v_i2l dL_law_1404 ?_
      have hx3 : X3.1 541 0 = jj (wr (rsM9 (rsR I).2).1) := by
        rcases hj with h9 | h9
        · exact h9.2.2
        · exfalso; omega
      refine v_lcmp (z := 0) dL_law_1405 (by rw [hx3, lg_cmpI (by omega) (by omega), cmpI_0.mpr rfl]) ?_
      refine v_if_eq (tgt := 1411) dL_law_1406 (by decide) (fun h1406 => ?_) (fun h1406 => ?_)
      · refine v_goto (tgt := 1470) dL_law_1411 (by decide) ?_
        exact v_wide (by omega) (by omega) hno2 (nx _ _ _ _ _ ⟨_, hL2, hM2, h541, h542, hno2, m2⟩)
      · exact absurd rfl h1406
  · exfalso
    omega

set_option maxRecDepth 100000 in
set_option maxHeartbeats 4000000 in
theorem w_count {l : Launch} {g : GV} {S : SS} {I : II} {X : XX} {Z : ZZ} {bc bs q : Nat} {o6 o7 : Option Value} (hfl : l.stackTraces = false) (hL9 : gL g ≤ 2048) (hq : 4 * q + 4 ≤ gL g) (hLV : LVI S I) (nx : ∀ S2 I2 X2 p6 p7, LVI S2 I2 → V l g mL_law 18 Z bc bs 1470 [some (.ref 999999), some (.ref 0), some (.ref 508), some (.ref 541), some (.ref 542), some (.int (ii ((4 * q : Nat) : Int))), p6, p7] [] S2 I2 X2) : V l g mL_law 18 Z (2 + bc) (12 + bs) 1414 [some (.ref 999999), some (.ref 0), some (.ref 508), some (.ref 541), some (.ref 542), some (.int (ii ((4 * q : Nat) : Int))), o6, o7] [] S I X := by
  obtain ⟨sl, hL, hM, h541, h542, hno, hI⟩ := hLV
  have hm0 := hL.1
  obtain ⟨m1, K9, hK, m2, m3⟩ := s_count (w := (sx g (4 * q + 1))) hI
  have hC := c_count (g := g) (X := X) hfl hno hL hI.1 (sx_rng g (4 * q + 1))
  have hno2 := hno
  have hL2 := hL
  have hM2 := hM
  have hm8 := hM2.1
  refine v_aload_n dL_law_1414 rfl ?_
  refine v_aload_n dL_law_1415 rfl ?_
  refine v_iload dL_law_1416 rfl ?_
  refine v_iconst dL_law_1418 ?_
  refine v_iadd dL_law_1419 ?_
  refine y_sld (j := 4 * q + 1) dL_law_1420 (by omega) (by omega) hL9 ?_
  refine v_aload_n dL_law_1421 rfl ?_
  refine v_callW (bc2 := 1 + bc) (bs2 := 6 + bs) (As := [.ref 0, .int (ii (sx g (4 * q + 1))), .ref 541]) dL_law_1422 lk_L_176 (by decide) rfl (h_count hfl hno hno2 hm0 h541 hC m3.r) (by decide) (Nat.le_of_ble_eq_true rfl) hno lq1_no (fun v S3 I3 X3 h => by obtain ⟨rfl, _⟩ := h; exact hno2) (by omega) (by omega) ?_
  intro v S3 I3 X3 h
  obtain ⟨rfl, rfl, k, hk, hrel⟩ := h
  cases hk
  have hj := join1 m3 hrel
  have hwr := wr_rng (if tKn (knR I (sx g (4 * q + 1))).2 (sx g (4 * q + 1)) ≤ 0 then (if (sx g (4 * q + 1)) = 3 then (K9 508 32, K9) else (knA (knR I (sx g (4 * q + 1))).2 (sx g (4 * q + 1)), up (knR I (sx g (4 * q + 1))).2 508 6 0)) else (0, up (knR I (sx g (4 * q + 1))).2 508 6 (tKn (knR I (sx g (4 * q + 1))).2 (sx g (4 * q + 1))))).1
  refine v_ist6 dL_law_1425 rfl ?_
  refine v_aload_n dL_law_1427 rfl ?_
  refine v_aload_n dL_law_1428 rfl ?_
  refine v_iload dL_law_1429 rfl ?_
  refine v_iconst dL_law_1431 ?_
  refine v_iadd dL_law_1432 ?_
  refine y_sld (j := 4 * q + 1) dL_law_1433 (by omega) (by omega) hL9 ?_
  refine v_cV1 dL_law_1434 lk_L_178 (by assumption) (by decide) rfl (cw (k_countW hfl hM2 m1.mi hK (sx_rng g (4 * q + 1)))) (by decide) (Nat.le_of_ble_eq_true rfl) ?_ rfl
  refine v_ist7 dL_law_1437 rfl ?_
  refine v_aload_n dL_law_1439 rfl ?_
  refine v_cV0 dL_law_1440 lk_L_95 (by assumption) (by decide) rfl (k_thrown hfl hM2) (by decide) (Nat.le_of_ble_eq_true rfl) ?_ rfl
  refine v_iload dL_law_1443 rfl ?_
  refine v_ic_eq (tgt := 1450) dL_law_1445 (by decide) (fun h1445 => ?_) (fun h1445 => ?_)
  · refine v_iload dL_law_1450 rfl ?_
    refine v_if_ne (tgt := 1467) dL_law_1452 (by decide) (fun h1452 => ?_) (fun h1452 => ?_)
    · refine v_goto (tgt := 1470) dL_law_1467 (by decide) ?_
      exact v_wide (by omega) (by omega) hno2 (nx _ _ _ _ _ ⟨_, hL2, hM2, h541, h542, hno2, m2⟩)
    · refine v_aload_n dL_law_1455 rfl ?_
      refine v_iconst dL_law_1456 ?_
      refine v_lald (j := 0) dL_law_1457 (by assumption) (by first | rfl | omega) (by omega) ?_
      refine v_iload dL_law_1458 rfl ?_
      refine v_i2l dL_law_1460 ?_
      have hx3 : X3.1 541 0 = jj (wr (if tKn (knR I (sx g (4 * q + 1))).2 (sx g (4 * q + 1)) ≤ 0 then (if (sx g (4 * q + 1)) = 3 then (K9 508 32, K9) else (knA (knR I (sx g (4 * q + 1))).2 (sx g (4 * q + 1)), up (knR I (sx g (4 * q + 1))).2 508 6 0)) else (0, up (knR I (sx g (4 * q + 1))).2 508 6 (tKn (knR I (sx g (4 * q + 1))).2 (sx g (4 * q + 1))))).1) := by
        rcases hj with h9 | h9
        · exact h9.2.2
        · exfalso; omega
      refine v_lcmp (z := 0) dL_law_1461 (by rw [hx3, lg_cmpI (by omega) (by omega), cmpI_0.mpr rfl]) ?_
      refine v_if_eq (tgt := 1467) dL_law_1462 (by decide) (fun h1462 => ?_) (fun h1462 => ?_)
      · refine v_goto (tgt := 1470) dL_law_1467 (by decide) ?_
        exact v_wide (by omega) (by omega) hno2 (nx _ _ _ _ _ ⟨_, hL2, hM2, h541, h542, hno2, m2⟩)
      · exact absurd rfl h1462
  · exfalso
    omega
