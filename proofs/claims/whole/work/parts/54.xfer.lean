/-! THE MODEL: transfers, exclusions -/
def MI (I : II) : Prop := WfM I ∧ RG I
theorem MI_up {I : II} {a k : Nat} {z : Int} (h : MI I) (ha : a ≠ 509) (hz : -2147483648 ≤ z ∧ z < 2147483648) : MI (up I a k z) := ⟨WfM_of h.1 (up_ne (fun e => ha e.symm)), rg_up h.2 hz⟩
theorem MI_go {I : II} {p : Nat} {b r : Int} (h : MI I) (hp : p < 25) (hb : -1 ≤ b ∧ b ≤ 8) (hr : -2147483648 ≤ r ∧ r < 2147483648) : MI (goM I p b r) := ⟨WfM_of h.1 (goM_e (by omega) (by omega) (by omega) (by omega) (by omega)), rg_go h.2 h.1 hp hb hr⟩
theorem go_f {I : II} {p k : Nat} {b r : Int} (hk : k ≠ 39) : goM I p b r 508 k = I 508 k := by
  unfold goM
  split
  · rw [up_ne (by omega), up_ne (by omega), up_ne (by omega), up_ne (by omega)]
  · rw [up_nk hk, up_ne (by omega), up_ne (by omega), up_ne (by omega)]
theorem sw_rng {s w : Int} (hs : 0 ≤ s ∧ s ≤ 99) (hw : -2147483648 ≤ w ∧ w < 2147483648) : -212600881152 ≤ s * w ∧ s * w ≤ 212600881152 := by
  have h1 : (s * w).natAbs = s.natAbs * w.natAbs := Int.natAbs_mul s w
  have h2 : s.natAbs * w.natAbs ≤ 99 * 2147483648 := Nat.mul_le_mul (by omega) (by omega)
  omega
/-- the round of the last parcel -/
def mlF (I : II) (q : Int) : Nat → Int
  | 0 => -1
  | p + 1 => if I 533 p = q ∧ 0 < mSz I p then mxI (mlF I q p) (I 536 p) else mlF I q p
theorem mlF_rng {I : II} {q : Int} (h : RG I) : ∀ p, -2147483648 ≤ mlF I q p ∧ mlF I q p < 2147483648
  | 0 => by
    show -2147483648 ≤ (-1 : Int) ∧ (-1 : Int) < 2147483648
    decide
  | p + 1 => by
    have h1 := mlF_rng (q := q) h p
    have h2 := h 536 p
    unfold mlF
    split
    · unfold mxI
      split <;> omega
    · exact h1
/-- what a parcel's papers are worth -/
def alF (I : II) (q la : Int) : Nat → Int
  | 0 => 0
  | p + 1 => if ioF I p q la = 0 then alF I q la p else alF I q la p + mSz I p * I 535 p
theorem alF_rng {I : II} {q la : Int} (hW : WfM I) (h : RG I) : ∀ p : Nat, p ≤ 25 → -212600881152 * (p : Int) ≤ alF I q la p ∧ alF I q la p ≤ 212600881152 * (p : Int)
  | 0, _ => by
    show -212600881152 * ((0 : Nat) : Int) ≤ (0 : Int) ∧ (0 : Int) ≤ 212600881152 * ((0 : Nat) : Int)
    decide
  | p + 1, hp => by
    have h1 := alF_rng (q := q) (la := la) hW h p (by omega)
    have h2 := sw_rng (hW.2.2.2.1 p (by omega)) (h 535 p)
    unfold alF
    split <;> omega
def cmpI (a b : Int) : Int := if b < a then 1 else if a = b then 0 else -1
theorem cmpI_rng (a b : Int) : -1 ≤ cmpI a b ∧ cmpI a b ≤ 1 := by unfold cmpI; split <;> (try split) <;> omega
theorem cmpI_0 {a b : Int} : cmpI a b = 0 ↔ a = b := by unfold cmpI; split <;> (try split) <;> omega
theorem lg_cmpI {a b : Int} (ha : -9223372036854775808 ≤ a ∧ a < 9223372036854775808) (hb : -9223372036854775808 ≤ b ∧ b < 9223372036854775808) : lg_cmp (jj a) (jj b) = ii (cmpI a b) := by
  unfold lg_cmp cmpI
  by_cases h1 : b < a
  · rw [if_pos h1, if_pos (show jj a > jj b from (jj_lt hb ha).mpr h1)]
    decide
  · rw [if_neg h1, if_neg (show ¬ jj a > jj b from fun q => h1 ((jj_lt hb ha).mp q))]
    by_cases h2 : a = b
    · rw [if_pos h2, if_pos (by rw [h2])]
      decide
    · rw [if_neg h2, if_neg (fun q => h2 ((jj_eq ha hb).mp q))]
      decide
def twF (w su al : Int) : Int := if al = 0 then 0 else (w * su).tdiv al
theorem tw_rng {w su al : Int} (hw : -2147483648 ≤ w ∧ w < 2147483648) (hs : -2147483648 ≤ su ∧ su < 2147483648) : -4611686018427387904 ≤ twF w su al ∧ twF w su al ≤ 4611686018427387904 := by
  unfold twF
  split
  · omega
  · exact tdiv_rng (mul_rng hw hs)
def tnF (w su al : Int) : Int := wr (mnI w (twF w su al))
def tfS (J : II) (p : Nat) (su al : Int) : II := up J 535 p (tnF (J 535 p) su al)
/-- the piles of a parcel go on, from p on: the cells, the units -/
def tfL (r : Nat) (q la su al : Int) : Nat → Nat → II → Int → Option (II × Int)
  | 0, _, J, u => some (J, u)
  | k + 1, p, J, u => if ioF J p q la = 0 then tfL r q la su al k (p + 1) J u else if -1 ≤ J 534 p ∧ J 534 p ≤ 8 then tfL r q la su al k (p + 1) (goM (tfS J p su al) p (J 534 p) r) (u + mSz J p * tnF (J 535 p) su al) else none
def tfE (K : II) (r q : Nat) (su u : Int) : II := hnM (up (up (up K 531 q (K 516 r)) 532 q 1) 508 40 (wr (K 508 40 + (su - u)))) r 1 q u
def tfA (I : II) (r q n : Nat) : Option (II × Int) := tfL r q (mlF I q n) (wr (I 531 q - I 516 r)) (alF I q (mlF I q n) n) n 0 I 0
def trO (I : II) (r q : Nat) : Option II := (tfA I r q (I 509 1).toNat).map (fun K => tfE K.1 r q (wr (I 531 q - I 516 r)) K.2)
/-- those that are with a candidate go on -/
def xcL (r : Nat) (q : Int) : Nat → Nat → II → Option II
  | 0, _, J => some J
  | k + 1, p, J => if J 533 p = q then (if -1 ≤ J 534 p ∧ J 534 p ≤ 8 then xcL r q k (p + 1) (goM J p (J 534 p) r) else none) else xcL r q k (p + 1) J
def xcA (J : II) (r q : Nat) (rs : Int) : II := up (up (up (up (up J 525 q 2) 526 q r) 528 q rs) 529 q (if rs = 4 then J 508 41 else -1)) 531 q 0
def xcR (J : II) (r s : Nat) : Int := if pop8 (extF (mVt J r) s 0 (J 509 0).toNat).1 ≤ 1 then 3 else if J 508 42 = 0 then 4 else 5
def xcB (J : II) (r s q : Nat) : Option II := (xcL r q (J 509 1).toNat 0 (xcA J r q (xcR J r s))).map (fun K => hnM K r 2 q (J 531 q))
def exO (I : II) (r : Nat) : Option II := if 0 ≤ lkV I r (hpF I 0 (I 509 0).toNat) 0 then xcB (lkM I r (hpF I 0 (I 509 0).toNat) 0) r (hpF I 0 (I 509 0).toNat) (lkV I r (hpF I 0 (I 509 0).toNat) 0).toNat else none
theorem lk_hp {I : II} {r s : Nat} {m : Int} {ls : Int} : ∀ n, hpF (lkM I r s m) ls n = hpF I ls n
  | 0 => rfl
  | n + 1 => by
    show orF (hpF (lkM I r s m) ls n) n (hpB (lkM I r s m) ls n) = orF (hpF I ls n) n (hpB I ls n)
    rw [lk_hp n]
    unfold hpB
    rw [lkM_ne (by omega), lkM_ne (by omega)]
theorem lk_b {I : II} {r s : Nat} {m : Int} : lkM I r s m 508 42 = (if pop8 (lkQ I r s m r).1 ≤ 1 then 0 else 1) := by
  unfold lkM lkI
  exact up_eq
theorem lk_b01 {I : II} {r s : Nat} {m : Int} : lkM I r s m 508 42 = 0 ∨ lkM I r s m 508 42 = 1 := by rw [lk_b]; split <;> omega
theorem MI_lk {I : II} {r s : Nat} {m : Int} (h : MI I) (hr : r < 9) : MI (lkM I r s m) := by
  have := lkT_rng (I := I) (r := r) (s := s) (m := m) hr r (Nat.le_refl r)
  unfold lkM lkI
  refine MI_up (MI_up h (by omega) (by omega)) (by omega) ?_
  split <;> omega
theorem lkV_rng {I : II} {r s : Nat} {m : Int} (hW : WfM I) : -1 ≤ lkV I r s m ∧ lkV I r s m < 8 := lkF_rng (f := fun k => I 509 (7 + k)) (fun k hk => hW.2.2.2.2.2.2.1 k hk) (I 509 0).toNat (by have := hW.1; omega)
theorem MI_hn {I : II} {r : Nat} {a b m : Int} (h : MI I) (ha : -2147483648 ≤ a ∧ a < 2147483648) (hb : -2147483648 ≤ b ∧ b < 2147483648) : MI (hnM I r a b m) := MI_up (MI_up (MI_up h (by omega) ha) (by omega) hb) (by omega) (wr_rng _)
theorem hn_e {I : II} {r x : Nat} {a b m : Int} (h1 : x ≠ 519) (h2 : x ≠ 520) (h3 : x ≠ 521) : hnM I r a b m x = I x := by
  unfold hnM
  rw [up_ne h3, up_ne h2, up_ne h1]
theorem MI_xcA {J : II} {r q : Nat} {rs : Int} (h : MI J) (hr : r < 9) (hrs : 0 ≤ rs ∧ rs ≤ 5) : MI (xcA J r q rs) := by
  have h2 := h.2 508 41
  unfold xcA
  refine MI_up (MI_up (MI_up (MI_up (MI_up h (by omega) (by omega)) (by omega) (by omega)) (by omega) (by omega)) (by omega) ?_) (by omega) (by omega)
  split <;> omega
theorem xcA_e {J : II} {r q x : Nat} {rs : Int} (h1 : x ≠ 525) (h2 : x ≠ 526) (h3 : x ≠ 528) (h4 : x ≠ 529) (h5 : x ≠ 531) : xcA J r q rs x = J x := by
  unfold xcA
  rw [up_ne h5, up_ne h4, up_ne h3, up_ne h2, up_ne h1]
theorem xcR_rng (J : II) (r s : Nat) : 3 ≤ xcR J r s ∧ xcR J r s ≤ 5 := by unfold xcR; split <;> (try split) <;> omega

set_option maxRecDepth 100000 in
set_option maxHeartbeats 4000000 in
theorem k_trL3 {l : Launch} {g : GV} {S : SS} {X : XX} {q r n : Nat} {la su al u2 : Int} {K : II} (hfl : l.stackTraces = false) (hM : isMod S) (hq : q < 8) (hr : r < 9) (hn25 : n ≤ 25) (hla : -2147483648 ≤ la ∧ la < 2147483648) (hsu : -2147483648 ≤ su ∧ su < 2147483648) (hal : -9223372036854775808 ≤ al ∧ al < 9223372036854775808) : ∀ (j p : Nat) (J : II) (u : Int), p + j = n → tfL r q la su al j p J u = some (K, u2) → WfM J → RG J → J 508 15 = (r : Int) → J 509 1 = (n : Int) → V l g mX9_transfer 3 (Zm g (QE none S (tfE K r q su u2) X)) 0 0 133 [some (.ref 508), some (.int (ii (q : Int))), some (.int (ii la)), some (.long (jj al)), none, some (.int (ii su)), some (.int (ii u)), some (.int (ii (p : Int))), none, none] [] S J X := by
  obtain ⟨m0, ⟨p509, q509⟩, ⟨p510, q510⟩, ⟨p511, q511⟩, ⟨p512, q512⟩, ⟨p513, q513⟩, ⟨p514, q514⟩, ⟨p515, q515⟩, ⟨p516, q516⟩, ⟨p517, q517⟩, ⟨p518, q518⟩, ⟨p519, q519⟩, ⟨p520, q520⟩, ⟨p521, q521⟩, ⟨p522, q522⟩, ⟨p523, q523⟩, ⟨p524, q524⟩, ⟨p525, q525⟩, ⟨p526, q526⟩, ⟨p527, q527⟩, ⟨p528, q528⟩, ⟨p529, q529⟩, ⟨p530, q530⟩, ⟨p531, q531⟩, ⟨p532, q532⟩, ⟨p533, q533⟩, ⟨p534, q534⟩, ⟨p535, q535⟩, ⟨p536, q536⟩, ⟨p537, q537⟩, ⟨p538, q538⟩, ⟨p539, q539⟩, ⟨p540, q540⟩⟩ := id hM
  have main : ∀ (p : Nat), p ≤ n → ∀ (j : Nat) (J : II) (u : Int), p + j = n → tfL r q la su al j p J u = some (K, u2) → WfM J → RG J → J 508 15 = (r : Int) → J 509 1 = (n : Int) → V l g mX9_transfer 3 (Zm g (QE none S (tfE K r q su u2) X)) 0 0 133 [some (.ref 508), some (.int (ii (q : Int))), some (.int (ii la)), some (.long (jj al)), none, some (.int (ii su)), some (.int (ii u)), some (.int (ii (p : Int))), none, none] [] S J X := by
    refine loop_up fun p hpn ih0 => ?_
    intro j J u hj hT hW hRG hrr hn
    have ih : ∀ (k p2 : Nat) (J2 : II) (u3 : Int), p2 = p + 1 → p2 + k = n → tfL r q la su al k p2 J2 u3 = some (K, u2) → WfM J2 → RG J2 → J2 508 15 = (r : Int) → J2 509 1 = (n : Int) → V l g mX9_transfer 3 (Zm g (QE none S (tfE K r q su u2) X)) 0 0 133 [some (.ref 508), some (.int (ii (q : Int))), some (.int (ii la)), some (.long (jj al)), none, some (.int (ii su)), some (.int (ii u3)), some (.int (ii (p2 : Int))), none, none] [] S J2 X := fun k p2 J2 u3 e1 e2 e3 e4 e5 e6 e7 => ih0 p2 (by omega) (by omega) k J2 u3 e2 e3 e4 e5 e6 e7
    obtain ⟨w0, w1, w2, w3, w4, w5, w6, w7, w8, w9, w10⟩ := id hW
    refine v_iload dX9_transfer_133 rfl ?_
    refine v_aload_n dX9_transfer_135 rfl ?_
    refine v_getr dX9_transfer_136 fr_X9_9 (by assumption) (by decide) rfl (by assumption) ?_
    refine v_iconst dX9_transfer_139 ?_
    refine v_iald (j := 1) dX9_transfer_140 (by assumption) rfl (by omega) ?_
    rw [hn]
    refine v_ic_ge (tgt := 244) dX9_transfer_141 (by decide) (fun h141 => ?_) (fun h141 => ?_)
    · obtain rfl : j = 0 := by omega
      obtain ⟨rfl, rfl⟩ : J = K ∧ u = u2 := by
        have hT2 : some (J, u) = some (K, u2) := hT
        simpa using hT2
      refine v_aload_n dX9_transfer_244 rfl ?_
      refine v_getr dX9_transfer_245 fr_X9_80 (by assumption) (by decide) rfl (by assumption) ?_
      refine v_iload_n dX9_transfer_248 rfl ?_
      refine v_aload_n dX9_transfer_249 rfl ?_
      refine v_getr dX9_transfer_250 fr_X9_35 (by assumption) (by decide) rfl (by assumption) ?_
      refine v_aload_n dX9_transfer_253 rfl ?_
      refine v_geti dX9_transfer_254 fr_X9_212 (by assumption) (by decide) rfl ?_
      rw [hrr]
      refine v_iald (j := r) dX9_transfer_257 (by assumption) rfl (by omega) ?_
      refine v_iast (j := q) dX9_transfer_258 (by assumption) rfl (by omega) ?_
      refine v_aload_n dX9_transfer_259 rfl ?_
      refine v_getr dX9_transfer_260 fr_X9_83 (by assumption) (by decide) rfl (by assumption) ?_
      refine v_iload_n dX9_transfer_263 rfl ?_
      refine v_iconst dX9_transfer_264 ?_
      refine v_bast (j := q) dX9_transfer_265 (by assumption) rfl (by omega) (Or.inr rfl) ?_
      refine v_aload_n dX9_transfer_266 rfl ?_
      refine v_dup dX9_transfer_267 rfl ?_
      refine v_geti dX9_transfer_268 fr_X9_218 (by assumption) (by decide) rfl ?_
      rw [show (up (up J 531 q (J 516 r)) 532 q 1) 508 = J 508 by rw [up_ne (by omega), up_ne (by omega)]]
      refine v_iload dX9_transfer_271 rfl ?_
      refine v_iload dX9_transfer_273 rfl ?_
      refine v_isub dX9_transfer_275 ?_
      refine v_iadd dX9_transfer_276 ?_
      refine v_wr ?_
      refine v_puti dX9_transfer_277 fr_X9_218 (by assumption) (by decide) rfl ?_
      refine v_aload_n dX9_transfer_280 rfl ?_
      refine v_iconst dX9_transfer_281 ?_
      refine v_iload_n dX9_transfer_282 rfl ?_
      refine v_iload dX9_transfer_283 rfl ?_
      refine v_cV3n dX9_transfer_285 lk_X9_263 (by assumption) (by decide) rfl (k_happened hfl hM (by rw [up_nk (by omega), up_ne (by omega), up_ne (by omega)]; exact hrr) hr) (by decide) (Nat.le_of_ble_eq_true rfl) ?_ rfl
      exact v_vE dX9_transfer_288 rfl (rfl)
    · obtain ⟨k, rfl⟩ : ∃ k, j = k + 1 := ⟨j - 1, by omega⟩
      have hp : p < 25 := by omega
      have g1 := hRG 535 p
      have g2 := ioF_01 J p q la
      unfold tfL at hT
      refine v_aload_n dX9_transfer_144 rfl ?_
      refine v_iload dX9_transfer_145 rfl ?_
      refine v_iload_n dX9_transfer_147 rfl ?_
      refine v_iload_n dX9_transfer_148 rfl ?_
      refine v_cV3 dX9_transfer_149 lk_X9_256 (by assumption) (by decide) rfl (k_isOfParcel hfl hM hW hRG hp (by omega) hla) (by decide) (Nat.le_of_ble_eq_true rfl) ?_ rfl
      refine v_if_eq (tgt := 238) dX9_transfer_152 (by decide) (fun h152 => ?_) (fun h152 => ?_)
      · refine v_iinc7 dX9_transfer_238 rfl ?_
        refine v_goto (tgt := 133) dX9_transfer_241 (by decide) ?_
        rw [if_pos h152] at hT
        exact ih k (p + 1) _ _ (by omega) (by omega) hT hW hRG hrr hn
      · rw [if_neg (by omega)] at hT
        have hb : -1 ≤ J 534 p ∧ J 534 p ≤ 8 := by
          by_cases hb : -1 ≤ J 534 p ∧ J 534 p ≤ 8
          · exact hb
          · rw [if_neg hb] at hT
            cases hT
        rw [if_pos hb] at hT
        have hmr := mul_rng g1 hsu
        have htw := tw_rng (al := al) g1 hsu
        have M : V l g mX9_transfer 3 (Zm g (QE none S (tfE K r q su u2) X)) 0 0 179 [some (.ref 508), some (.int (ii (q : Int))), some (.int (ii la)), some (.long (jj al)), none, some (.int (ii su)), some (.int (ii u)), some (.int (ii (p : Int))), none, none] [.long (jj (twF (J 535 p) su al))] S J X := by
          refine v_lst8 dX9_transfer_179 rfl ?_
          refine v_aload_n dX9_transfer_181 rfl ?_
          refine v_getr dX9_transfer_182 fr_X9_93 (by assumption) (by decide) rfl (by assumption) ?_
          refine v_iload dX9_transfer_185 rfl ?_
          refine v_aload_n dX9_transfer_187 rfl ?_
          refine v_getr dX9_transfer_188 fr_X9_93 (by assumption) (by decide) rfl (by assumption) ?_
          refine v_iload dX9_transfer_191 rfl ?_
          refine v_iald (j := p) dX9_transfer_193 (by assumption) (by first | rfl | omega) (by omega) ?_
          refine v_i2l dX9_transfer_194 ?_
          refine v_lload dX9_transfer_195 rfl ?_
          refine v_mminL dX9_transfer_197 lk_X9_259 (by decide) (Nat.le_of_ble_eq_true rfl) ?_
          refine v_l2iw dX9_transfer_200 ?_
          refine v_wr ?_
          have hU : MI (up J 535 p (wr (mnI (J 535 p) (twF (J 535 p) su al)))) := MI_up ⟨hW, hRG⟩ (by omega) (wr_rng _)
          refine v_iast (j := p) dX9_transfer_201 (by assumption) (by first | rfl | omega) (by omega) ?_
          refine v_iload dX9_transfer_202 rfl ?_
          refine v_aload_n dX9_transfer_204 rfl ?_
          refine v_iload dX9_transfer_205 rfl ?_
          refine v_cV1 dX9_transfer_207 lk_X9_203 (by assumption) (by decide) rfl (k_sizeOf hfl hM hp) (by decide) (Nat.le_of_ble_eq_true rfl) ?_ rfl
          refine v_aload_n dX9_transfer_210 rfl ?_
          refine v_getr dX9_transfer_211 fr_X9_93 (by assumption) (by decide) rfl (by assumption) ?_
          refine v_iload dX9_transfer_214 rfl ?_
          refine v_iald (j := p) dX9_transfer_216 (by assumption) rfl (by omega) ?_
          rw [up_eq, show mSz (up J 535 p (wr (mnI (J 535 p) (twF (J 535 p) su al)))) p = mSz J p by unfold mSz; rw [up_ne (by omega)]]
          refine v_imul dX9_transfer_217 ?_
          refine v_iadd dX9_transfer_218 ?_
          refine v_ist6 dX9_transfer_219 rfl ?_
          refine v_aload_n dX9_transfer_221 rfl ?_
          refine v_iload dX9_transfer_222 rfl ?_
          refine v_aload_n dX9_transfer_224 rfl ?_
          refine v_getr dX9_transfer_225 fr_X9_90 (by assumption) (by decide) rfl (by assumption) ?_
          refine v_iload dX9_transfer_228 rfl ?_
          refine v_iald (j := p) dX9_transfer_230 (by assumption) rfl (by omega) ?_
          rw [show (up J 535 p (wr (mnI (J 535 p) (twF (J 535 p) su al)))) 534 = J 534 from up_ne (by omega)]
          refine v_aload_n dX9_transfer_231 rfl ?_
          refine v_geti dX9_transfer_232 fr_X9_212 (by assumption) (by decide) rfl ?_
          rw [up_ne (by omega), hrr]
          refine v_cV3n dX9_transfer_235 lk_X9_221 (by assumption) (by decide) rfl (k_goOn hfl hM hU.1 hU.2 hp (by omega)) (by decide) (Nat.le_of_ble_eq_true rfl) ?_ rfl
          refine v_iinc7 dX9_transfer_238 rfl ?_
          refine v_goto (tgt := 133) dX9_transfer_241 (by decide) ?_
          exact v_fgt2 (ih k (p + 1) _ _ (by omega) (by omega) hT (WfM_of hU.1 (goM_e (by omega) (by omega) (by omega) (by omega) (by omega))) (rg_go hU.2 hU.1 hp hb (by omega)) (by rw [go_f (by omega), up_ne (by omega)]; exact hrr) (by rw [goM_e (by omega) (by omega) (by omega) (by omega) (by omega), up_ne (by omega)]; exact hn)) (fgt_c (Or.inr rfl) (fgt_c (Or.inr rfl) (fgt_c (Or.inr rfl) (fgt_c (Or.inr rfl) (fgt_c (Or.inr rfl) (fgt_c (Or.inr rfl) (fgt_c (Or.inr rfl) (fgt_c (Or.inr rfl) (fgt_c (Or.inl rfl) (fgt_c (Or.inl rfl) (fgt_n)))))))))))
        refine v_lload_n dX9_transfer_155 rfl ?_
        refine v_lconst (v := jj 0) dX9_transfer_156 (by decide) ?_
        refine v_lcmp (z := cmpI al 0) dX9_transfer_157 (lg_cmpI (by omega) (by omega)) ?_
        have hc1 := cmpI_rng al 0
        have hc0 := cmpI_0 (a := al) (b := 0)
        refine v_if_ne (tgt := 165) dX9_transfer_158 (by decide) (fun h158 => ?_) (fun h158 => ?_)
        · refine v_aload_n dX9_transfer_165 rfl ?_
          refine v_getr dX9_transfer_166 fr_X9_93 (by assumption) (by decide) rfl (by assumption) ?_
          refine v_iload dX9_transfer_169 rfl ?_
          refine v_iald (j := p) dX9_transfer_171 (by assumption) (by first | rfl | omega) (by omega) ?_
          refine v_i2l dX9_transfer_172 ?_
          refine v_iload dX9_transfer_173 rfl ?_
          refine v_i2l dX9_transfer_175 ?_
          refine v_lmul dX9_transfer_176 ?_
          refine v_lload_n dX9_transfer_177 rfl ?_
          refine v_ldiv (z := twF (J 535 p) su al) dX9_transfer_178 (jj_ne0 (by omega) (by omega)) (by rw [show twF (J 535 p) su al = (J 535 p * su).tdiv al from if_neg (by omega)]; exact jj_div _ _ (by omega) (by omega)) ?_
          exact M
        · refine v_lconst (v := jj (twF (J 535 p) su al)) dX9_transfer_161 (by rw [show twF (J 535 p) su al = 0 from if_pos (cmpI_0.mp (by omega))]; decide) ?_
          refine v_goto (tgt := 179) dX9_transfer_162 (by decide) ?_
          exact M
  exact fun j p J u hj hT hW hRG hrr hn => main p (by omega) j J u hj hT hW hRG hrr hn

set_option maxRecDepth 100000 in
set_option maxHeartbeats 4000000 in
theorem k_transfer {l : Launch} {g : GV} {S : SS} {I : II} {X : XX} {q r : Nat} {K : II} (hfl : l.stackTraces = false) (hM : isMod S) (hW : WfM I) (hRG : RG I) (hrr : I 508 15 = (r : Int)) (hq : q < 8) (hr : r < 9) (hK : trO I r q = some K) : CE l g mX9_transfer 3 [.ref 508, .int (ii (q : Int))] S I X none K := by
  obtain ⟨m0, ⟨p509, q509⟩, ⟨p510, q510⟩, ⟨p511, q511⟩, ⟨p512, q512⟩, ⟨p513, q513⟩, ⟨p514, q514⟩, ⟨p515, q515⟩, ⟨p516, q516⟩, ⟨p517, q517⟩, ⟨p518, q518⟩, ⟨p519, q519⟩, ⟨p520, q520⟩, ⟨p521, q521⟩, ⟨p522, q522⟩, ⟨p523, q523⟩, ⟨p524, q524⟩, ⟨p525, q525⟩, ⟨p526, q526⟩, ⟨p527, q527⟩, ⟨p528, q528⟩, ⟨p529, q529⟩, ⟨p530, q530⟩, ⟨p531, q531⟩, ⟨p532, q532⟩, ⟨p533, q533⟩, ⟨p534, q534⟩, ⟨p535, q535⟩, ⟨p536, q536⟩, ⟨p537, q537⟩, ⟨p538, q538⟩, ⟨p539, q539⟩, ⟨p540, q540⟩⟩ := id hM
  obtain ⟨w0, w1, w2, w3, w4, w5, w6, w7, w8, w9, w10⟩ := id hW
  obtain ⟨n, hn⟩ := Int.eq_ofNat_of_zero_le w1.1
  unfold trO tfA at hK
  rw [show (I 509 1).toNat = n by rw [hn]; rfl] at hK
  obtain ⟨⟨K1, u2⟩, hT, rfl⟩ := Option.map_eq_some_iff.mp hK
  have hla := mlF_rng (q := (q : Int)) hRG n
  have hal := alF_rng (q := (q : Int)) (la := mlF I q n) hW hRG n (by omega)
  have L2 : ∀ p : Nat, p ≤ n → V l g mX9_transfer 3 (Zm g (QE none S (tfE K1 r q (wr (I 531 q - I 516 r)) u2) X)) 0 0 58 [some (.ref 508), some (.int (ii (q : Int))), some (.int (ii (mlF I q n))), some (.long (jj (alF I q (mlF I q n) p))), none, some (.int (ii (p : Int))), none, none, none, none] [] S I X := by
    refine loop_up fun p hpn ih => ?_
    refine v_iload dX9_transfer_58 rfl ?_
    refine v_aload_n dX9_transfer_60 rfl ?_
    refine v_getr dX9_transfer_61 fr_X9_9 (by assumption) (by decide) rfl (by assumption) ?_
    refine v_iconst dX9_transfer_64 ?_
    refine v_iald (j := 1) dX9_transfer_65 (by assumption) rfl (by omega) ?_
    rw [hn]
    refine v_ic_ge (tgt := 109) dX9_transfer_66 (by decide) (fun h66 => ?_) (fun h66 => ?_)
    · obtain rfl : p = n := by omega
      refine v_aload_n dX9_transfer_109 rfl ?_
      refine v_getr dX9_transfer_110 fr_X9_80 (by assumption) (by decide) rfl (by assumption) ?_
      refine v_iload_n dX9_transfer_113 rfl ?_
      refine v_iald (j := q) dX9_transfer_114 (by assumption) (by first | rfl | omega) (by omega) ?_
      refine v_aload_n dX9_transfer_115 rfl ?_
      refine v_getr dX9_transfer_116 fr_X9_35 (by assumption) (by decide) rfl (by assumption) ?_
      refine v_aload_n dX9_transfer_119 rfl ?_
      refine v_geti dX9_transfer_120 fr_X9_212 (by assumption) (by decide) rfl ?_
      rw [hrr]
      refine v_iald (j := r) dX9_transfer_123 (by assumption) rfl (by omega) ?_
      refine v_isub dX9_transfer_124 ?_
      refine v_wr ?_
      refine v_ist5 dX9_transfer_125 rfl ?_
      refine v_iconst dX9_transfer_127 ?_
      refine v_ist6 dX9_transfer_128 rfl ?_
      refine v_iconst dX9_transfer_130 ?_
      refine v_ist7 dX9_transfer_131 rfl ?_
      exact k_trL3 hfl hM hq hr (by omega) hla (wr_rng _) (by omega) p 0 I 0 (by omega) hT hW hRG hrr hn
    · have hp : p < 25 := by omega
      have g1 := hRG 535 p
      have g2 := ioF_01 I p q (mlF I q n)
      have g3 := w3 p hp
      have ex : alF I q (mlF I q n) (p + 1) = if ioF I p q (mlF I q n) = 0 then alF I q (mlF I q n) p else alF I q (mlF I q n) p + mSz I p * I 535 p := rfl
      refine v_lload_n dX9_transfer_69 rfl ?_
      refine v_aload_n dX9_transfer_70 rfl ?_
      refine v_iload dX9_transfer_71 rfl ?_
      refine v_iload_n dX9_transfer_73 rfl ?_
      refine v_iload_n dX9_transfer_74 rfl ?_
      refine v_cV3 dX9_transfer_75 lk_X9_256 (by assumption) (by decide) rfl (k_isOfParcel hfl hM hW hRG (by omega) (by omega) (by omega)) (by decide) (Nat.le_of_ble_eq_true rfl) ?_ rfl
      refine v_if_eq (tgt := 100) dX9_transfer_78 (by decide) (fun h78 => ?_) (fun h78 => ?_)
      · refine v_lconst (v := jj 0) dX9_transfer_100 (by decide) ?_
        refine v_ladd dX9_transfer_101 ?_
        refine v_lstn3 dX9_transfer_102 rfl ?_
        refine v_iinc5 dX9_transfer_103 rfl ?_
        refine v_goto (tgt := 58) dX9_transfer_106 (by decide) ?_
        have q9 := ih (p + 1) (by omega) (by omega)
        rw [ex] at q9
        first
          | (rw [if_pos (by omega)] at q9; rw [Int.add_zero]; exact q9)
          | (rw [if_neg (by omega)] at q9; exact q9)
      · refine v_aload_n dX9_transfer_81 rfl ?_
        refine v_iload dX9_transfer_82 rfl ?_
        refine v_cV1 dX9_transfer_84 lk_X9_203 (by assumption) (by decide) rfl (k_sizeOf hfl hM (by omega)) (by decide) (Nat.le_of_ble_eq_true rfl) ?_ rfl
        refine v_i2l dX9_transfer_87 ?_
        refine v_aload_n dX9_transfer_88 rfl ?_
        refine v_getr dX9_transfer_89 fr_X9_93 (by assumption) (by decide) rfl (by assumption) ?_
        refine v_iload dX9_transfer_92 rfl ?_
        refine v_iald (j := p) dX9_transfer_94 (by assumption) (by first | rfl | omega) (by omega) ?_
        refine v_i2l dX9_transfer_95 ?_
        refine v_lmul dX9_transfer_96 ?_
        refine v_goto (tgt := 101) dX9_transfer_97 (by decide) ?_
        refine v_ladd dX9_transfer_101 ?_
        refine v_lstn3 dX9_transfer_102 rfl ?_
        refine v_iinc5 dX9_transfer_103 rfl ?_
        refine v_goto (tgt := 58) dX9_transfer_106 (by decide) ?_
        have q9 := ih (p + 1) (by omega) (by omega)
        rw [ex] at q9
        first
          | (rw [if_pos (by omega)] at q9; rw [Int.add_zero]; exact q9)
          | (rw [if_neg (by omega)] at q9; exact q9)
  have L1 : ∀ p : Nat, p ≤ n → V l g mX9_transfer 3 (Zm g (QE none S (tfE K1 r q (wr (I 531 q - I 516 r)) u2) X)) 0 0 4 [some (.ref 508), some (.int (ii (q : Int))), some (.int (ii (mlF I q p))), some (.int (ii (p : Int))), none, none, none, none, none, none] [] S I X := by
    refine loop_up fun p hpn ih => ?_
    refine v_iload_n dX9_transfer_4 rfl ?_
    refine v_aload_n dX9_transfer_5 rfl ?_
    refine v_getr dX9_transfer_6 fr_X9_9 (by assumption) (by decide) rfl (by assumption) ?_
    refine v_iconst dX9_transfer_9 ?_
    refine v_iald (j := 1) dX9_transfer_10 (by assumption) rfl (by omega) ?_
    rw [hn]
    refine v_ic_ge (tgt := 53) dX9_transfer_11 (by decide) (fun h11 => ?_) (fun h11 => ?_)
    · obtain rfl : p = n := by omega
      refine v_lconst (v := jj 0) dX9_transfer_53 (by decide) ?_
      refine v_lstn3 dX9_transfer_54 rfl ?_
      refine v_iconst dX9_transfer_55 ?_
      refine v_ist5 dX9_transfer_56 rfl ?_
      exact L2 0 (Nat.zero_le _)
    · have g1 := hRG 533 p
      have g2 := hRG 536 p
      have g3 := w3 p (by omega)
      have g4 := mlF_rng (q := q) hRG p
      have ex : mlF I q (p + 1) = if I 533 p = q ∧ 0 < mSz I p then mxI (mlF I q p) (I 536 p) else mlF I q p := rfl
      refine v_aload_n dX9_transfer_14 rfl ?_
      refine v_getr dX9_transfer_15 fr_X9_87 (by assumption) (by decide) rfl (by assumption) ?_
      refine v_iload_n dX9_transfer_18 rfl ?_
      refine v_iald (j := p) dX9_transfer_19 (by assumption) (by first | rfl | omega) (by omega) ?_
      refine v_iload_n dX9_transfer_20 rfl ?_
      refine v_ic_ne (tgt := 45) dX9_transfer_21 (by decide) (fun h21 => ?_) (fun h21 => ?_)
      · refine v_iload_n dX9_transfer_45 rfl ?_
        refine v_istn2 dX9_transfer_46 rfl ?_
        refine v_iinc3 dX9_transfer_47 rfl ?_
        refine v_goto (tgt := 4) dX9_transfer_50 (by decide) ?_
        have q9 := ih (p + 1) (by omega) (by omega)
        rw [ex] at q9
        first
          | (rw [if_pos (by omega)] at q9; exact q9)
          | (rw [if_neg (by omega)] at q9; exact q9)
      · refine v_aload_n dX9_transfer_24 rfl ?_
        refine v_iload_n dX9_transfer_25 rfl ?_
        refine v_cV1 dX9_transfer_26 lk_X9_203 (by assumption) (by decide) rfl (k_sizeOf hfl hM (by omega)) (by decide) (Nat.le_of_ble_eq_true rfl) ?_ rfl
        refine v_if_le (tgt := 45) dX9_transfer_29 (by decide) (fun h29 => ?_) (fun h29 => ?_)
        · refine v_iload_n dX9_transfer_45 rfl ?_
          refine v_istn2 dX9_transfer_46 rfl ?_
          refine v_iinc3 dX9_transfer_47 rfl ?_
          refine v_goto (tgt := 4) dX9_transfer_50 (by decide) ?_
          have q9 := ih (p + 1) (by omega) (by omega)
          rw [ex] at q9
          first
            | (rw [if_pos (by omega)] at q9; exact q9)
            | (rw [if_neg (by omega)] at q9; exact q9)
        · refine v_iload_n dX9_transfer_32 rfl ?_
          refine v_aload_n dX9_transfer_33 rfl ?_
          refine v_getr dX9_transfer_34 fr_X9_96 (by assumption) (by decide) rfl (by assumption) ?_
          refine v_iload_n dX9_transfer_37 rfl ?_
          refine v_iald (j := p) dX9_transfer_38 (by assumption) (by first | rfl | omega) (by omega) ?_
          refine v_mmax dX9_transfer_39 lk_X9_251 (by decide) (Nat.le_of_ble_eq_true rfl) ?_
          refine v_goto (tgt := 46) dX9_transfer_42 (by decide) ?_
          refine v_istn2 dX9_transfer_46 rfl ?_
          refine v_iinc3 dX9_transfer_47 rfl ?_
          refine v_goto (tgt := 4) dX9_transfer_50 (by decide) ?_
          have q9 := ih (p + 1) (by omega) (by omega)
          rw [ex] at q9
          first
            | (rw [if_pos (by omega)] at q9; exact q9)
            | (rw [if_neg (by omega)] at q9; exact q9)
  refine v_startE hfl rfl (by decide) (Nat.le_of_ble_eq_true rfl) (ls := [some (.ref 508), some (.int (ii (q : Int))), none, none, none, none, none, none, none, none]) rfl ?_
  refine v_iconst dX9_transfer_0 ?_
  refine v_istn2 dX9_transfer_1 rfl ?_
  refine v_iconst dX9_transfer_2 ?_
  refine v_istn3 dX9_transfer_3 rfl ?_
  exact L1 0 (Nat.zero_le _)
