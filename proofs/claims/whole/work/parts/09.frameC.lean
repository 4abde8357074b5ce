/-! THE FRAME, C: numbers; one row an instruction (printed by a program of this repository) -/
theorem ii_add (a b : Int) : ii (a + b) = ii a + ii b := Int32.ofInt_add a b
theorem ii_sub (a b : Int) : ii (a - b) = ii a - ii b := Int32.ofInt_sub a b
theorem ii_mul (a b : Int) : ii (a * b) = ii a * ii b := Int32.ofInt_mul a b
theorem ii_of (x : Int32) : ii x.toInt = x := Int32.ofInt_toInt x
theorem ii_toInt {z : Int} (h : -2147483648 ≤ z ∧ z < 2147483648) : (ii z).toInt = z := Int32.toInt_ofInt_of_le (by omega) (by omega)
theorem ii_lt {a b : Int} (ha : -2147483648 ≤ a ∧ a < 2147483648) (hb : -2147483648 ≤ b ∧ b < 2147483648) : ii a < ii b ↔ a < b := by
  rw [Int32.lt_iff_toInt_lt, ii_toInt ha, ii_toInt hb]
theorem ii_le {a b : Int} (ha : -2147483648 ≤ a ∧ a < 2147483648) (hb : -2147483648 ≤ b ∧ b < 2147483648) : ii a ≤ ii b ↔ a ≤ b := by
  rw [Int32.le_iff_toInt_le, ii_toInt ha, ii_toInt hb]
theorem ii_eq {a b : Int} (ha : -2147483648 ≤ a ∧ a < 2147483648) (hb : -2147483648 ≤ b ∧ b < 2147483648) : ii a = ii b ↔ a = b := by
  rw [← Int32.toInt_inj, ii_toInt ha, ii_toInt hb]
theorem ii_0 : (0 : Int32) = ii 0 := by decide
theorem ii_rng (x : Int32) : -2147483648 ≤ x.toInt ∧ x.toInt < 2147483648 := ⟨Int32.le_toInt x, Int32.toInt_lt x⟩
def jj (z : Int) : Int64 := Int64.ofInt z
theorem jj_add (a b : Int) : jj (a + b) = jj a + jj b := Int64.ofInt_add a b
theorem jj_mul (a b : Int) : jj (a * b) = jj a * jj b := Int64.ofInt_mul a b
theorem jj_toInt {z : Int} (h : -9223372036854775808 ≤ z ∧ z < 9223372036854775808) : (jj z).toInt = z := Int64.toInt_ofInt_of_le (by omega) (by omega)
theorem jj_of {z : Int} (h : -2147483648 ≤ z ∧ z < 2147483648) : (ii z).toInt64 = jj z := by
  rw [← Int64.toInt_inj, Int32.toInt_toInt64, ii_toInt h, jj_toInt (by omega)]
theorem jj_i {z : Int} (h : -2147483648 ≤ z ∧ z < 2147483648) : (jj z).toInt32 = ii z := by
  rw [← jj_of h, Int32.toInt32_toInt64]
theorem jj_lt {a b : Int} (ha : -9223372036854775808 ≤ a ∧ a < 9223372036854775808) (hb : -9223372036854775808 ≤ b ∧ b < 9223372036854775808) : jj a < jj b ↔ a < b := by
  rw [Int64.lt_iff_toInt_lt, jj_toInt ha, jj_toInt hb]
theorem jj_eq {a b : Int} (ha : -9223372036854775808 ≤ a ∧ a < 9223372036854775808) (hb : -9223372036854775808 ≤ b ∧ b < 9223372036854775808) : jj a = jj b ↔ a = b := by
  rw [← Int64.toInt_inj, jj_toInt ha, jj_toInt hb]
theorem ii_ix {z : Int} {j : Nat} (h : z = (j : Int)) (hj : j < 2147483648) : (ii z).toNatClampNeg = j := by
  show (ii z).toInt.toNat = j
  rw [ii_toInt (by omega), h]
  rfl
theorem ii_in {z : Int} {j n : Nat} (h : z = (j : Int)) (hj : j < n) (hn : n ≤ 2147483648) : vp_in (ii z) n := by
  intro q
  rw [ii_ix h (by omega)] at q
  rcases q with q | q
  · rw [Int32.lt_iff_toInt_lt, ii_toInt (by omega)] at q
    have : (0 : Int32).toInt = 0 := by decide
    omega
  · omega
def okc : Option Value → Bool
  | some v => v.category == 1
  | none => true
theorem okc_p {ls : List (Option Value)} {i : Nat} {a : Option Value} (ha : ls[i - 1]? = some a) (hc : okc a = true) : ∀ u, i ≠ 0 → ls[i - 1]? = some (some u) → u.category = 1 := by
  intro u _ hu
  have h := ha.symm.trans hu
  cases h
  simpa [okc] using hc
theorem LH_len {g : GV} {lsA : Array Slot} {nL : Nat} {ls : List (Option Value)} (h : LH g lsA nL ls) (i : Nat) (hi : i < ls.length) : i < nL := h.2.2.2 ▸ hi
section FC
variable {l : Launch} {g : GV} {mt : MT} {dp bc bs pc pc2 : Nat} {Z : ZZ} {ls : List (Option Value)} {st : List Value} {S : SS} {I : II} {X : XX}
theorem v_iload_n {kx : Fin 4} {x : Int32} (hd : DC (mCc mt) pc (.iload_n kx) 1 pc2) (hl : ls[(kx : Nat)]? = some (some (.int x))) (k : V l g mt dp Z bc bs pc2 ls (.int x :: st) S I X) : V l g mt dp Z bc bs pc ls (st) S I X := by
  obtain ⟨hd1, rfl⟩ := hd
  intro p e s m args below meth c H locs cells slots R lsA hv
  exact lv_iload_n hv.1.1 hv.1.2.1 hd1 rfl (hv.2.2.2.2.2.2.2.1 _ _ hl) (k p e s m args below meth c H locs cells slots R lsA hv)
theorem v_iload {ix : Nat} {x : Int32} (hd : DC (mCc mt) pc (.iload ix) 2 pc2) (hl : ls[ix]? = some (some (.int x))) (k : V l g mt dp Z bc bs pc2 ls (.int x :: st) S I X) : V l g mt dp Z bc bs pc ls (st) S I X := by
  obtain ⟨hd1, rfl⟩ := hd
  intro p e s m args below meth c H locs cells slots R lsA hv
  exact lv_iload hv.1.1 hv.1.2.1 hd1 (hv.2.2.2.2.2.2.2.1 _ _ hl) (k p e s m args below meth c H locs cells slots R lsA hv)
theorem v_aload_n {kx : Fin 4} {x : Nat} (hd : DC (mCc mt) pc (.aload_n kx) 1 pc2) (hl : ls[(kx : Nat)]? = some (some (.ref x))) (k : V l g mt dp Z bc bs pc2 ls (.ref x :: st) S I X) : V l g mt dp Z bc bs pc ls (st) S I X := by
  obtain ⟨hd1, rfl⟩ := hd
  intro p e s m args below meth c H locs cells slots R lsA hv
  exact lv_aload_n hv.1.1 hv.1.2.1 hd1 rfl (hv.2.2.2.2.2.2.2.1 _ _ hl) (k p e s m args below meth c H locs cells slots R lsA hv)
theorem v_aload {ix : Nat} {x : Nat} (hd : DC (mCc mt) pc (.aload ix) 2 pc2) (hl : ls[ix]? = some (some (.ref x))) (k : V l g mt dp Z bc bs pc2 ls (.ref x :: st) S I X) : V l g mt dp Z bc bs pc ls (st) S I X := by
  obtain ⟨hd1, rfl⟩ := hd
  intro p e s m args below meth c H locs cells slots R lsA hv
  exact lv_aload hv.1.1 hv.1.2.1 hd1 (hv.2.2.2.2.2.2.2.1 _ _ hl) (k p e s m args below meth c H locs cells slots R lsA hv)
theorem v_lload_n {kx : Fin 4} {x : Int64} (hd : DC (mCc mt) pc (.lload_n kx) 1 pc2) (hl : ls[(kx : Nat)]? = some (some (.long x))) (k : V l g mt dp Z bc bs pc2 ls (.long x :: st) S I X) : V l g mt dp Z bc bs pc ls (st) S I X := by
  obtain ⟨hd1, rfl⟩ := hd
  intro p e s m args below meth c H locs cells slots R lsA hv
  exact lv_lload_n hv.1.1 hv.1.2.1 hd1 rfl (hv.2.2.2.2.2.2.2.1 _ _ hl) (k p e s m args below meth c H locs cells slots R lsA hv)
theorem v_lload {ix : Nat} {x : Int64} (hd : DC (mCc mt) pc (.lload ix) 2 pc2) (hl : ls[ix]? = some (some (.long x))) (k : V l g mt dp Z bc bs pc2 ls (.long x :: st) S I X) : V l g mt dp Z bc bs pc ls (st) S I X := by
  obtain ⟨hd1, rfl⟩ := hd
  intro p e s m args below meth c H locs cells slots R lsA hv
  exact lv_lload hv.1.1 hv.1.2.1 hd1 (hv.2.2.2.2.2.2.2.1 _ _ hl) (k p e s m args below meth c H locs cells slots R lsA hv)
theorem v_fload {ix : Nat} {x : UInt32} (hd : DC (mCc mt) pc (.fload ix) 2 pc2) (hl : ls[ix]? = some (some (.float x))) (k : V l g mt dp Z bc bs pc2 ls (.float x :: st) S I X) : V l g mt dp Z bc bs pc ls (st) S I X := by
  obtain ⟨hd1, rfl⟩ := hd
  intro p e s m args below meth c H locs cells slots R lsA hv
  exact lv_fload hv.1.1 hv.1.2.1 hd1 (hv.2.2.2.2.2.2.2.1 _ _ hl) (k p e s m args below meth c H locs cells slots R lsA hv)
theorem v_iconst {n : Int} (hd : DC (mCc mt) pc (.iconst n) 1 pc2) (k : V l g mt dp Z bc bs pc2 ls (.int (ii n) :: st) S I X) : V l g mt dp Z bc bs pc ls (st) S I X := by
  obtain ⟨hd1, rfl⟩ := hd
  intro p e s m args below meth c H locs cells slots R lsA hv
  exact lv_iconst hv.1.1 hv.1.2.1 hd1 rfl (k p e s m args below meth c H locs cells slots R lsA hv)
theorem v_bipush {n : Int} (hd : DC (mCc mt) pc (.bipush n) 2 pc2) (hc : (Int8.ofInt n).toInt32 = ii n) (k : V l g mt dp Z bc bs pc2 ls (.int (ii n) :: st) S I X) : V l g mt dp Z bc bs pc ls (st) S I X := by
  obtain ⟨hd1, rfl⟩ := hd
  intro p e s m args below meth c H locs cells slots R lsA hv
  exact lv_bipush hv.1.1 hv.1.2.1 hd1 hc (k p e s m args below meth c H locs cells slots R lsA hv)
theorem v_sipush {n : Int} (hd : DC (mCc mt) pc (.sipush n) 3 pc2) (hc : (Int16.ofInt n).toInt32 = ii n) (k : V l g mt dp Z bc bs pc2 ls (.int (ii n) :: st) S I X) : V l g mt dp Z bc bs pc ls (st) S I X := by
  obtain ⟨hd1, rfl⟩ := hd
  intro p e s m args below meth c H locs cells slots R lsA hv
  exact lv_sipush hv.1.1 hv.1.2.1 hd1 hc (k p e s m args below meth c H locs cells slots R lsA hv)
theorem v_lconst {n : Fin 2} {v : Int64} (hd : DC (mCc mt) pc (.lconst n) 1 pc2) (hc : Int64.ofNat (n : Nat) = v) (k : V l g mt dp Z bc bs pc2 ls (.long v :: st) S I X) : V l g mt dp Z bc bs pc ls (st) S I X := by
  obtain ⟨hd1, rfl⟩ := hd
  intro p e s m args below meth c H locs cells slots R lsA hv
  exact lv_lconst hv.1.1 hv.1.2.1 hd1 hc (k p e s m args below meth c H locs cells slots R lsA hv)
theorem v_fconst0 (hd : DC (mCc mt) pc (.fconst 0) 1 pc2) (k : V l g mt dp Z bc bs pc2 ls (.float FP.fconst0 :: st) S I X) : V l g mt dp Z bc bs pc ls (st) S I X := by
  obtain ⟨hd1, rfl⟩ := hd
  intro p e s m args below meth c H locs cells slots R lsA hv
  exact lv_fconst0 hv.1.1 hv.1.2.1 hd1 (k p e s m args below meth c H locs cells slots R lsA hv)
theorem v_ldc {ix : Nat} {v : Int32} (hd : DC (mCc mt) pc (.ldc ix) 2 pc2) (hw : Cond.constant (mOwn mt) ix v ∈ lw_good) (k : V l g mt dp Z bc bs pc2 ls (.int v :: st) S I X) : V l g mt dp Z bc bs pc ls (st) S I X := by
  obtain ⟨hd1, rfl⟩ := hd
  intro p e s m args below meth c H locs cells slots R lsA hv
  exact lv_ldc hv.1.1 hv.1.2.1 hv.1.2.2.2.2.1 (hv.1.2.2.2.2.2.1 _ hw) hd1 (k p e s m args below meth c H locs cells slots R lsA hv)
theorem v_ldcw {ix : Nat} {v : Int32} (hd : DC (mCc mt) pc (.ldc_w ix) 3 pc2) (hw : Cond.constant (mOwn mt) ix v ∈ lw_good) (k : V l g mt dp Z bc bs pc2 ls (.int v :: st) S I X) : V l g mt dp Z bc bs pc ls (st) S I X := by
  obtain ⟨hd1, rfl⟩ := hd
  intro p e s m args below meth c H locs cells slots R lsA hv
  exact lv_ldcw hv.1.1 hv.1.2.1 hv.1.2.2.2.2.1 (hv.1.2.2.2.2.2.1 _ hw) hd1 (k p e s m args below meth c H locs cells slots R lsA hv)
theorem v_iadd {a b : Int} (hd : DC (mCc mt) pc (.iadd) 1 pc2) (k : V l g mt dp Z bc bs pc2 ls (.int (ii (a + b)) :: st) S I X) : V l g mt dp Z bc bs pc ls (.int (ii b) :: .int (ii a) :: st) S I X := by
  obtain ⟨hd1, rfl⟩ := hd
  intro p e s m args below meth c H locs cells slots R lsA hv
  exact lv_iadd hv.1.1 hv.1.2.1 hd1 (by rw [← ii_add]; exact k p e s m args below meth c H locs cells slots R lsA hv)
theorem v_isub {a b : Int} (hd : DC (mCc mt) pc (.isub) 1 pc2) (k : V l g mt dp Z bc bs pc2 ls (.int (ii (a - b)) :: st) S I X) : V l g mt dp Z bc bs pc ls (.int (ii b) :: .int (ii a) :: st) S I X := by
  obtain ⟨hd1, rfl⟩ := hd
  intro p e s m args below meth c H locs cells slots R lsA hv
  exact lv_isub hv.1.1 hv.1.2.1 hd1 (by rw [← ii_sub]; exact k p e s m args below meth c H locs cells slots R lsA hv)
theorem v_imul {a b : Int} (hd : DC (mCc mt) pc (.imul) 1 pc2) (k : V l g mt dp Z bc bs pc2 ls (.int (ii (a * b)) :: st) S I X) : V l g mt dp Z bc bs pc ls (.int (ii b) :: .int (ii a) :: st) S I X := by
  obtain ⟨hd1, rfl⟩ := hd
  intro p e s m args below meth c H locs cells slots R lsA hv
  exact lv_imul hv.1.1 hv.1.2.1 hd1 (by rw [← ii_mul]; exact k p e s m args below meth c H locs cells slots R lsA hv)
theorem v_ladd {a b : Int} (hd : DC (mCc mt) pc (.ladd) 1 pc2) (k : V l g mt dp Z bc bs pc2 ls (.long (jj (a + b)) :: st) S I X) : V l g mt dp Z bc bs pc ls (.long (jj b) :: .long (jj a) :: st) S I X := by
  obtain ⟨hd1, rfl⟩ := hd
  intro p e s m args below meth c H locs cells slots R lsA hv
  exact lv_ladd hv.1.1 hv.1.2.1 hd1 (by rw [← jj_add]; exact k p e s m args below meth c H locs cells slots R lsA hv)
theorem v_lmul {a b : Int} (hd : DC (mCc mt) pc (.lmul) 1 pc2) (k : V l g mt dp Z bc bs pc2 ls (.long (jj (a * b)) :: st) S I X) : V l g mt dp Z bc bs pc ls (.long (jj b) :: .long (jj a) :: st) S I X := by
  obtain ⟨hd1, rfl⟩ := hd
  intro p e s m args below meth c H locs cells slots R lsA hv
  exact lv_lmul hv.1.1 hv.1.2.1 hd1 (by rw [← jj_mul]; exact k p e s m args below meth c H locs cells slots R lsA hv)
theorem v_iand {x y : Int32} {z : Int} (hd : DC (mCc mt) pc (.iand) 1 pc2) (hz : x &&& y = ii z) (k : V l g mt dp Z bc bs pc2 ls (.int (ii z) :: st) S I X) : V l g mt dp Z bc bs pc ls (.int y :: .int x :: st) S I X := by
  obtain ⟨hd1, rfl⟩ := hd
  intro p e s m args below meth c H locs cells slots R lsA hv
  exact lv_iand hv.1.1 hv.1.2.1 hd1 (by rw [hz]; exact k p e s m args below meth c H locs cells slots R lsA hv)
theorem v_ior {x y : Int32} {z : Int} (hd : DC (mCc mt) pc (.ior) 1 pc2) (hz : x ||| y = ii z) (k : V l g mt dp Z bc bs pc2 ls (.int (ii z) :: st) S I X) : V l g mt dp Z bc bs pc ls (.int y :: .int x :: st) S I X := by
  obtain ⟨hd1, rfl⟩ := hd
  intro p e s m args below meth c H locs cells slots R lsA hv
  exact lv_ior hv.1.1 hv.1.2.1 hd1 (by rw [hz]; exact k p e s m args below meth c H locs cells slots R lsA hv)
theorem v_ixor {x y : Int32} {z : Int} (hd : DC (mCc mt) pc (.ixor) 1 pc2) (hz : x ^^^ y = ii z) (k : V l g mt dp Z bc bs pc2 ls (.int (ii z) :: st) S I X) : V l g mt dp Z bc bs pc ls (.int y :: .int x :: st) S I X := by
  obtain ⟨hd1, rfl⟩ := hd
  intro p e s m args below meth c H locs cells slots R lsA hv
  exact lv_ixor hv.1.1 hv.1.2.1 hd1 (by rw [hz]; exact k p e s m args below meth c H locs cells slots R lsA hv)
theorem v_ishl {x y : Int32} {z : Int} (hd : DC (mCc mt) pc (.ishl) 1 pc2) (hz : x <<< (y &&& 31) = ii z) (k : V l g mt dp Z bc bs pc2 ls (.int (ii z) :: st) S I X) : V l g mt dp Z bc bs pc ls (.int y :: .int x :: st) S I X := by
  obtain ⟨hd1, rfl⟩ := hd
  intro p e s m args below meth c H locs cells slots R lsA hv
  exact lv_ishl hv.1.1 hv.1.2.1 hd1 (by rw [hz]; exact k p e s m args below meth c H locs cells slots R lsA hv)
theorem v_ishr {x y : Int32} {z : Int} (hd : DC (mCc mt) pc (.ishr) 1 pc2) (hz : x >>> (y &&& 31) = ii z) (k : V l g mt dp Z bc bs pc2 ls (.int (ii z) :: st) S I X) : V l g mt dp Z bc bs pc ls (.int y :: .int x :: st) S I X := by
  obtain ⟨hd1, rfl⟩ := hd
  intro p e s m args below meth c H locs cells slots R lsA hv
  exact lv_ishr hv.1.1 hv.1.2.1 hd1 (by rw [hz]; exact k p e s m args below meth c H locs cells slots R lsA hv)
theorem v_iushr {x y : Int32} {z : Int} (hd : DC (mCc mt) pc (.iushr) 1 pc2) (hz : (x.toUInt32 >>> (y.toUInt32 &&& Int32.toUInt32 31)).toInt32 = ii z) (k : V l g mt dp Z bc bs pc2 ls (.int (ii z) :: st) S I X) : V l g mt dp Z bc bs pc ls (.int y :: .int x :: st) S I X := by
  obtain ⟨hd1, rfl⟩ := hd
  intro p e s m args below meth c H locs cells slots R lsA hv
  exact lv_iushr hv.1.1 hv.1.2.1 hd1 hz (k p e s m args below meth c H locs cells slots R lsA hv)
theorem v_idiv {x y : Int32} {z : Int} (hd : DC (mCc mt) pc (.idiv) 1 pc2) (hn : ¬ y = 0) (hz : x / y = ii z) (k : V l g mt dp Z bc bs pc2 ls (.int (ii z) :: st) S I X) : V l g mt dp Z bc bs pc ls (.int y :: .int x :: st) S I X := by
  obtain ⟨hd1, rfl⟩ := hd
  intro p e s m args below meth c H locs cells slots R lsA hv
  exact lv_idiv hv.1.1 hv.1.2.1 hd1 hn (by rw [hz]; exact k p e s m args below meth c H locs cells slots R lsA hv)
theorem v_irem {x y : Int32} {z : Int} (hd : DC (mCc mt) pc (.irem) 1 pc2) (hn : ¬ y = 0) (hz : x - x / y * y = ii z) (k : V l g mt dp Z bc bs pc2 ls (.int (ii z) :: st) S I X) : V l g mt dp Z bc bs pc ls (.int y :: .int x :: st) S I X := by
  obtain ⟨hd1, rfl⟩ := hd
  intro p e s m args below meth c H locs cells slots R lsA hv
  exact lv_irem hv.1.1 hv.1.2.1 hd1 hn (by rw [hz]; exact k p e s m args below meth c H locs cells slots R lsA hv)
theorem v_ldiv {x y : Int64} {z : Int} (hd : DC (mCc mt) pc (.ldiv) 1 pc2) (hn : ¬ y = 0) (hz : x / y = jj z) (k : V l g mt dp Z bc bs pc2 ls (.long (jj z) :: st) S I X) : V l g mt dp Z bc bs pc ls (.long y :: .long x :: st) S I X := by
  obtain ⟨hd1, rfl⟩ := hd
  intro p e s m args below meth c H locs cells slots R lsA hv
  exact lv_ldiv hv.1.1 hv.1.2.1 hd1 hn (by rw [hz]; exact k p e s m args below meth c H locs cells slots R lsA hv)
theorem v_lcmp {x y : Int64} {z : Int} (hd : DC (mCc mt) pc (.lcmp) 1 pc2) (hz : lg_cmp x y = ii z) (k : V l g mt dp Z bc bs pc2 ls (.int (ii z) :: st) S I X) : V l g mt dp Z bc bs pc ls (.long y :: .long x :: st) S I X := by
  obtain ⟨hd1, rfl⟩ := hd
  intro p e s m args below meth c H locs cells slots R lsA hv
  exact W.lcmp hv.1.1 hv.1.2.1 hd1 (by rw [hz]; exact k p e s m args below meth c H locs cells slots R lsA hv)
theorem v_i2l {z : Int} (hd : DC (mCc mt) pc (.i2l) 1 pc2) (k : V l g mt dp Z bc bs pc2 ls (.long (jj z) :: st) S I X) (hr : -2147483648 ≤ z ∧ z < 2147483648 := by omega) : V l g mt dp Z bc bs pc ls (.int (ii z) :: st) S I X := by
  obtain ⟨hd1, rfl⟩ := hd
  intro p e s m args below meth c H locs cells slots R lsA hv
  exact lv_i2l hv.1.1 hv.1.2.1 hd1 (jj_of hr) (k p e s m args below meth c H locs cells slots R lsA hv)
theorem v_l2i {z : Int} (hd : DC (mCc mt) pc (.l2i) 1 pc2) (k : V l g mt dp Z bc bs pc2 ls (.int (ii z) :: st) S I X) (hr : -2147483648 ≤ z ∧ z < 2147483648 := by omega) : V l g mt dp Z bc bs pc ls (.long (jj z) :: st) S I X := by
  obtain ⟨hd1, rfl⟩ := hd
  intro p e s m args below meth c H locs cells slots R lsA hv
  exact lv_l2i hv.1.1 hv.1.2.1 hd1 (jj_i hr) (k p e s m args below meth c H locs cells slots R lsA hv)
theorem v_i2f {x : Int32} (hd : DC (mCc mt) pc (.i2f) 1 pc2) (k : V l g mt dp Z bc bs pc2 ls (.float (FP.i2f x) :: st) S I X) : V l g mt dp Z bc bs pc ls (.int x :: st) S I X := by
  obtain ⟨hd1, rfl⟩ := hd
  intro p e s m args below meth c H locs cells slots R lsA hv
  exact lv_i2f hv.1.1 hv.1.2.1 hd1 (k p e s m args below meth c H locs cells slots R lsA hv)
theorem v_f2d {x : UInt32} (hd : DC (mCc mt) pc (.f2d) 1 pc2) (hn : vf_n64 (FP.f2d x)) (k : V l g mt dp Z bc bs pc2 ls (.double (FP.f2d x) :: st) S I X) : V l g mt dp Z bc bs pc ls (.float x :: st) S I X := by
  obtain ⟨hd1, rfl⟩ := hd
  intro p e s m args below meth c H locs cells slots R lsA hv
  exact lv_f2d hv.1.1 hv.1.2.1 hd1 hn (k p e s m args below meth c H locs cells slots R lsA hv)
theorem v_fdiv {x y : UInt32} (hd : DC (mCc mt) pc (.fdiv) 1 pc2) (hn : vf_n32 (FP.fdiv x y)) (k : V l g mt dp Z bc bs pc2 ls (.float (FP.fdiv x y) :: st) S I X) : V l g mt dp Z bc bs pc ls (.float y :: .float x :: st) S I X := by
  obtain ⟨hd1, rfl⟩ := hd
  intro p e s m args below meth c H locs cells slots R lsA hv
  exact lv_fdiv hv.1.1 hv.1.2.1 hd1 hn (k p e s m args below meth c H locs cells slots R lsA hv)
theorem v_fcmp {x y : UInt32} {op : CmpOp} (hd : DC (mCc mt) pc (.fcmp op) 1 pc2) (k : V l g mt dp Z bc bs pc2 ls (.int (Op.cmpValue (FP.fcmp x y) op) :: st) S I X) : V l g mt dp Z bc bs pc ls (.float y :: .float x :: st) S I X := by
  obtain ⟨hd1, rfl⟩ := hd
  intro p e s m args below meth c H locs cells slots R lsA hv
  exact lv_fcmp hv.1.1 hv.1.2.1 hd1 (k p e s m args below meth c H locs cells slots R lsA hv)
theorem v_dcmp {x y : UInt64} {op : CmpOp} (hd : DC (mCc mt) pc (.dcmp op) 1 pc2) (k : V l g mt dp Z bc bs pc2 ls (.int (Op.cmpValue (FP.dcmp x y) op) :: st) S I X) : V l g mt dp Z bc bs pc ls (.double y :: .double x :: st) S I X := by
  obtain ⟨hd1, rfl⟩ := hd
  intro p e s m args below meth c H locs cells slots R lsA hv
  exact lv_dcmp hv.1.1 hv.1.2.1 hd1 (k p e s m args below meth c H locs cells slots R lsA hv)
theorem v_dup {v : Value} (hd : DC (mCc mt) pc (.dup) 1 pc2) (hc : v.category = 1) (k : V l g mt dp Z bc bs pc2 ls (v :: v :: st) S I X) : V l g mt dp Z bc bs pc ls (v :: st) S I X := by
  obtain ⟨hd1, rfl⟩ := hd
  intro p e s m args below meth c H locs cells slots R lsA hv
  exact lv_dup hv.1.1 hv.1.2.1 hd1 ((tv_cat g v).trans hc) (k p e s m args below meth c H locs cells slots R lsA hv)
theorem v_pop {v : Value} (hd : DC (mCc mt) pc (.pop) 1 pc2) (hc : v.category = 1) (k : V l g mt dp Z bc bs pc2 ls (st) S I X) : V l g mt dp Z bc bs pc ls (v :: st) S I X := by
  obtain ⟨hd1, rfl⟩ := hd
  intro p e s m args below meth c H locs cells slots R lsA hv
  exact lv_pop hv.1.1 hv.1.2.1 hd1 ((tv_cat g v).trans hc) (k p e s m args below meth c H locs cells slots R lsA hv)
theorem v_dup2 {v u : Value} (hd : DC (mCc mt) pc (.dup2) 1 pc2) (hc : v.category = 1) (hu : u.category = 1) (k : V l g mt dp Z bc bs pc2 ls (v :: u :: v :: u :: st) S I X) : V l g mt dp Z bc bs pc ls (v :: u :: st) S I X := by
  obtain ⟨hd1, rfl⟩ := hd
  intro p e s m args below meth c H locs cells slots R lsA hv
  exact lv_dup2_11 hv.1.1 hv.1.2.1 hd1 ((tv_cat g v).trans hc) ((tv_cat g u).trans hu) (k p e s m args below meth c H locs cells slots R lsA hv)
theorem v_istn0 {x : Int32} {b : Option Value} {t : List (Option Value)} (hd : DC (mCc mt) pc (.istore_n 0) 1 pc2) (k : V l g mt dp Z bc bs pc2 (some (.int x) :: t) st S I X) : V l g mt dp Z bc bs pc (b :: t) (.int x :: st) S I X := by
  obtain ⟨hd1, rfl⟩ := hd
  intro p e s m args below meth c H locs cells slots R lsA hv
  refine lv_istore_n (i := 0) hv.1.1 hv.1.2.1 hd1 rfl (LH_has hv.2.2.2.2.2) (LH_len hv.2.2.2.2.2 0 (by simp only [List.length_cons]; omega)) rfl (fun lsB hB => ?_)
  exact k p e s m args below meth c H locs cells slots R lsB ⟨hv.1, hv.2.1, hv.2.2.1, hv.2.2.2.1, hv.2.2.2.2.1, LH_st (i := 0) (v := .int x) hv.2.2.2.2.2 (fun u h => absurd rfl h) hB⟩
theorem v_astn0 {x : Nat} {b : Option Value} {t : List (Option Value)} (hd : DC (mCc mt) pc (.astore_n 0) 1 pc2) (k : V l g mt dp Z bc bs pc2 (some (.ref x) :: t) st S I X) : V l g mt dp Z bc bs pc (b :: t) (.ref x :: st) S I X := by
  obtain ⟨hd1, rfl⟩ := hd
  intro p e s m args below meth c H locs cells slots R lsA hv
  refine lv_astore_n (i := 0) hv.1.1 hv.1.2.1 hd1 rfl (LH_has hv.2.2.2.2.2) (LH_len hv.2.2.2.2.2 0 (by simp only [List.length_cons]; omega)) rfl (fun lsB hB => ?_)
  exact k p e s m args below meth c H locs cells slots R lsB ⟨hv.1, hv.2.1, hv.2.2.1, hv.2.2.2.1, hv.2.2.2.2.1, LH_st (i := 0) (v := .ref x) hv.2.2.2.2.2 (fun u h => absurd rfl h) hB⟩
theorem v_lstn0 {x : Int64} {b b2 : Option Value} {t : List (Option Value)} (hd : DC (mCc mt) pc (.lstore_n 0) 1 pc2) (k : V l g mt dp Z bc bs pc2 (some (.long x) :: none :: t) st S I X) : V l g mt dp Z bc bs pc (b :: b2 :: t) (.long x :: st) S I X := by
  obtain ⟨hd1, rfl⟩ := hd
  intro p e s m args below meth c H locs cells slots R lsA hv
  refine lv_lstore_n (i := 0) hv.1.1 hv.1.2.1 hd1 rfl (LH_has hv.2.2.2.2.2) (LH_len hv.2.2.2.2.2 1 (by simp only [List.length_cons]; omega)) rfl (fun lsB hB => ?_)
  exact k p e s m args below meth c H locs cells slots R lsB ⟨hv.1, hv.2.1, hv.2.2.1, hv.2.2.2.1, hv.2.2.2.2.1, LH_st2 (i := 0) (v := .long x) hv.2.2.2.2.2 (fun u h => absurd rfl h) hB⟩
theorem v_ist0 {x : Int32} {b : Option Value} {t : List (Option Value)} (hd : DC (mCc mt) pc (.istore 0) 2 pc2) (k : V l g mt dp Z bc bs pc2 (some (.int x) :: t) st S I X) : V l g mt dp Z bc bs pc (b :: t) (.int x :: st) S I X := by
  obtain ⟨hd1, rfl⟩ := hd
  intro p e s m args below meth c H locs cells slots R lsA hv
  refine lv_istore (i := 0) hv.1.1 hv.1.2.1 hd1 (LH_has hv.2.2.2.2.2) (LH_len hv.2.2.2.2.2 0 (by simp only [List.length_cons]; omega)) rfl (fun lsB hB => ?_)
  exact k p e s m args below meth c H locs cells slots R lsB ⟨hv.1, hv.2.1, hv.2.2.1, hv.2.2.2.1, hv.2.2.2.2.1, LH_st (i := 0) (v := .int x) hv.2.2.2.2.2 (fun u h => absurd rfl h) hB⟩
theorem v_ast0 {x : Nat} {b : Option Value} {t : List (Option Value)} (hd : DC (mCc mt) pc (.astore 0) 2 pc2) (k : V l g mt dp Z bc bs pc2 (some (.ref x) :: t) st S I X) : V l g mt dp Z bc bs pc (b :: t) (.ref x :: st) S I X := by
  obtain ⟨hd1, rfl⟩ := hd
  intro p e s m args below meth c H locs cells slots R lsA hv
  refine lv_astore (i := 0) hv.1.1 hv.1.2.1 hd1 (LH_has hv.2.2.2.2.2) (LH_len hv.2.2.2.2.2 0 (by simp only [List.length_cons]; omega)) rfl (fun lsB hB => ?_)
  exact k p e s m args below meth c H locs cells slots R lsB ⟨hv.1, hv.2.1, hv.2.2.1, hv.2.2.2.1, hv.2.2.2.2.1, LH_st (i := 0) (v := .ref x) hv.2.2.2.2.2 (fun u h => absurd rfl h) hB⟩
theorem v_fst0 {x : UInt32} {b : Option Value} {t : List (Option Value)} (hd : DC (mCc mt) pc (.fstore 0) 2 pc2) (k : V l g mt dp Z bc bs pc2 (some (.float x) :: t) st S I X) : V l g mt dp Z bc bs pc (b :: t) (.float x :: st) S I X := by
  obtain ⟨hd1, rfl⟩ := hd
  intro p e s m args below meth c H locs cells slots R lsA hv
  refine lv_fstore (i := 0) hv.1.1 hv.1.2.1 hd1 (LH_has hv.2.2.2.2.2) (LH_len hv.2.2.2.2.2 0 (by simp only [List.length_cons]; omega)) rfl (fun lsB hB => ?_)
  exact k p e s m args below meth c H locs cells slots R lsB ⟨hv.1, hv.2.1, hv.2.2.1, hv.2.2.2.1, hv.2.2.2.2.1, LH_st (i := 0) (v := .float x) hv.2.2.2.2.2 (fun u h => absurd rfl h) hB⟩
theorem v_lst0 {x : Int64} {b b2 : Option Value} {t : List (Option Value)} (hd : DC (mCc mt) pc (.lstore 0) 2 pc2) (k : V l g mt dp Z bc bs pc2 (some (.long x) :: none :: t) st S I X) : V l g mt dp Z bc bs pc (b :: b2 :: t) (.long x :: st) S I X := by
  obtain ⟨hd1, rfl⟩ := hd
  intro p e s m args below meth c H locs cells slots R lsA hv
  refine lv_lstore (i := 0) hv.1.1 hv.1.2.1 hd1 (LH_has hv.2.2.2.2.2) (LH_len hv.2.2.2.2.2 1 (by simp only [List.length_cons]; omega)) rfl (fun lsB hB => ?_)
  exact k p e s m args below meth c H locs cells slots R lsB ⟨hv.1, hv.2.1, hv.2.2.1, hv.2.2.2.1, hv.2.2.2.2.1, LH_st2 (i := 0) (v := .long x) hv.2.2.2.2.2 (fun u h => absurd rfl h) hB⟩
theorem v_iinc0 {z n : Int} {t : List (Option Value)} (hd : DC (mCc mt) pc (.iinc 0 n) 3 pc2) (k : V l g mt dp Z bc bs pc2 (some (.int (ii (z + n))) :: t) st S I X) : V l g mt dp Z bc bs pc (some (.int (ii z)) :: t) st S I X := by
  obtain ⟨hd1, rfl⟩ := hd
  intro p e s m args below meth c H locs cells slots R lsA hv
  obtain ⟨kx, hk⟩ := List.getElem?_of_mem (lvl_mem (g := g) (some (.int (ii z)) :: t) 0 0 (.int (ii z)) rfl)
  refine lv_iinc (i := 0) (k := kx) hv.1.1 hv.1.2.1 hd1 (LH_has hv.2.2.2.2.2) hk (ii_add z n).symm (LH_len hv.2.2.2.2.2 0 (by simp only [List.length_cons]; omega)) rfl (fun lsB hB => ?_)
  exact k p e s m args below meth c H locs cells slots R lsB ⟨hv.1, hv.2.1, hv.2.2.1, hv.2.2.2.1, hv.2.2.2.2.1, LH_st (i := 0) (v := .int (ii (z + n))) hv.2.2.2.2.2 (fun u h => absurd rfl h) hB⟩
theorem v_istn1 {x : Int32} {a0 b : Option Value} {t : List (Option Value)} (hd : DC (mCc mt) pc (.istore_n 1) 1 pc2) (hc : okc a0 = true) (k : V l g mt dp Z bc bs pc2 (a0 :: some (.int x) :: t) st S I X) : V l g mt dp Z bc bs pc (a0 :: b :: t) (.int x :: st) S I X := by
  obtain ⟨hd1, rfl⟩ := hd
  intro p e s m args below meth c H locs cells slots R lsA hv
  refine lv_istore_n (i := 1) hv.1.1 hv.1.2.1 hd1 rfl (LH_has hv.2.2.2.2.2) (LH_len hv.2.2.2.2.2 1 (by simp only [List.length_cons]; omega)) rfl (fun lsB hB => ?_)
  exact k p e s m args below meth c H locs cells slots R lsB ⟨hv.1, hv.2.1, hv.2.2.1, hv.2.2.2.1, hv.2.2.2.2.1, LH_st (i := 1) (v := .int x) hv.2.2.2.2.2 (okc_p (a := a0) rfl hc) hB⟩
theorem v_astn1 {x : Nat} {a0 b : Option Value} {t : List (Option Value)} (hd : DC (mCc mt) pc (.astore_n 1) 1 pc2) (hc : okc a0 = true) (k : V l g mt dp Z bc bs pc2 (a0 :: some (.ref x) :: t) st S I X) : V l g mt dp Z bc bs pc (a0 :: b :: t) (.ref x :: st) S I X := by
  obtain ⟨hd1, rfl⟩ := hd
  intro p e s m args below meth c H locs cells slots R lsA hv
  refine lv_astore_n (i := 1) hv.1.1 hv.1.2.1 hd1 rfl (LH_has hv.2.2.2.2.2) (LH_len hv.2.2.2.2.2 1 (by simp only [List.length_cons]; omega)) rfl (fun lsB hB => ?_)
  exact k p e s m args below meth c H locs cells slots R lsB ⟨hv.1, hv.2.1, hv.2.2.1, hv.2.2.2.1, hv.2.2.2.2.1, LH_st (i := 1) (v := .ref x) hv.2.2.2.2.2 (okc_p (a := a0) rfl hc) hB⟩
theorem v_lstn1 {x : Int64} {a0 b b2 : Option Value} {t : List (Option Value)} (hd : DC (mCc mt) pc (.lstore_n 1) 1 pc2) (hc : okc a0 = true) (k : V l g mt dp Z bc bs pc2 (a0 :: some (.long x) :: none :: t) st S I X) : V l g mt dp Z bc bs pc (a0 :: b :: b2 :: t) (.long x :: st) S I X := by
  obtain ⟨hd1, rfl⟩ := hd
  intro p e s m args below meth c H locs cells slots R lsA hv
  refine lv_lstore_n (i := 1) hv.1.1 hv.1.2.1 hd1 rfl (LH_has hv.2.2.2.2.2) (LH_len hv.2.2.2.2.2 2 (by simp only [List.length_cons]; omega)) rfl (fun lsB hB => ?_)
  exact k p e s m args below meth c H locs cells slots R lsB ⟨hv.1, hv.2.1, hv.2.2.1, hv.2.2.2.1, hv.2.2.2.2.1, LH_st2 (i := 1) (v := .long x) hv.2.2.2.2.2 (okc_p (a := a0) rfl hc) hB⟩
theorem v_ist1 {x : Int32} {a0 b : Option Value} {t : List (Option Value)} (hd : DC (mCc mt) pc (.istore 1) 2 pc2) (hc : okc a0 = true) (k : V l g mt dp Z bc bs pc2 (a0 :: some (.int x) :: t) st S I X) : V l g mt dp Z bc bs pc (a0 :: b :: t) (.int x :: st) S I X := by
  obtain ⟨hd1, rfl⟩ := hd
  intro p e s m args below meth c H locs cells slots R lsA hv
  refine lv_istore (i := 1) hv.1.1 hv.1.2.1 hd1 (LH_has hv.2.2.2.2.2) (LH_len hv.2.2.2.2.2 1 (by simp only [List.length_cons]; omega)) rfl (fun lsB hB => ?_)
  exact k p e s m args below meth c H locs cells slots R lsB ⟨hv.1, hv.2.1, hv.2.2.1, hv.2.2.2.1, hv.2.2.2.2.1, LH_st (i := 1) (v := .int x) hv.2.2.2.2.2 (okc_p (a := a0) rfl hc) hB⟩
theorem v_ast1 {x : Nat} {a0 b : Option Value} {t : List (Option Value)} (hd : DC (mCc mt) pc (.astore 1) 2 pc2) (hc : okc a0 = true) (k : V l g mt dp Z bc bs pc2 (a0 :: some (.ref x) :: t) st S I X) : V l g mt dp Z bc bs pc (a0 :: b :: t) (.ref x :: st) S I X := by
  obtain ⟨hd1, rfl⟩ := hd
  intro p e s m args below meth c H locs cells slots R lsA hv
  refine lv_astore (i := 1) hv.1.1 hv.1.2.1 hd1 (LH_has hv.2.2.2.2.2) (LH_len hv.2.2.2.2.2 1 (by simp only [List.length_cons]; omega)) rfl (fun lsB hB => ?_)
  exact k p e s m args below meth c H locs cells slots R lsB ⟨hv.1, hv.2.1, hv.2.2.1, hv.2.2.2.1, hv.2.2.2.2.1, LH_st (i := 1) (v := .ref x) hv.2.2.2.2.2 (okc_p (a := a0) rfl hc) hB⟩
theorem v_fst1 {x : UInt32} {a0 b : Option Value} {t : List (Option Value)} (hd : DC (mCc mt) pc (.fstore 1) 2 pc2) (hc : okc a0 = true) (k : V l g mt dp Z bc bs pc2 (a0 :: some (.float x) :: t) st S I X) : V l g mt dp Z bc bs pc (a0 :: b :: t) (.float x :: st) S I X := by
  obtain ⟨hd1, rfl⟩ := hd
  intro p e s m args below meth c H locs cells slots R lsA hv
  refine lv_fstore (i := 1) hv.1.1 hv.1.2.1 hd1 (LH_has hv.2.2.2.2.2) (LH_len hv.2.2.2.2.2 1 (by simp only [List.length_cons]; omega)) rfl (fun lsB hB => ?_)
  exact k p e s m args below meth c H locs cells slots R lsB ⟨hv.1, hv.2.1, hv.2.2.1, hv.2.2.2.1, hv.2.2.2.2.1, LH_st (i := 1) (v := .float x) hv.2.2.2.2.2 (okc_p (a := a0) rfl hc) hB⟩
theorem v_lst1 {x : Int64} {a0 b b2 : Option Value} {t : List (Option Value)} (hd : DC (mCc mt) pc (.lstore 1) 2 pc2) (hc : okc a0 = true) (k : V l g mt dp Z bc bs pc2 (a0 :: some (.long x) :: none :: t) st S I X) : V l g mt dp Z bc bs pc (a0 :: b :: b2 :: t) (.long x :: st) S I X := by
  obtain ⟨hd1, rfl⟩ := hd
  intro p e s m args below meth c H locs cells slots R lsA hv
  refine lv_lstore (i := 1) hv.1.1 hv.1.2.1 hd1 (LH_has hv.2.2.2.2.2) (LH_len hv.2.2.2.2.2 2 (by simp only [List.length_cons]; omega)) rfl (fun lsB hB => ?_)
  exact k p e s m args below meth c H locs cells slots R lsB ⟨hv.1, hv.2.1, hv.2.2.1, hv.2.2.2.1, hv.2.2.2.2.1, LH_st2 (i := 1) (v := .long x) hv.2.2.2.2.2 (okc_p (a := a0) rfl hc) hB⟩
theorem v_iinc1 {z n : Int} {a0 : Option Value} {t : List (Option Value)} (hd : DC (mCc mt) pc (.iinc 1 n) 3 pc2) (hc : okc a0 = true) (k : V l g mt dp Z bc bs pc2 (a0 :: some (.int (ii (z + n))) :: t) st S I X) : V l g mt dp Z bc bs pc (a0 :: some (.int (ii z)) :: t) st S I X := by
  obtain ⟨hd1, rfl⟩ := hd
  intro p e s m args below meth c H locs cells slots R lsA hv
  obtain ⟨kx, hk⟩ := List.getElem?_of_mem (lvl_mem (g := g) (a0 :: some (.int (ii z)) :: t) 0 1 (.int (ii z)) rfl)
  refine lv_iinc (i := 1) (k := kx) hv.1.1 hv.1.2.1 hd1 (LH_has hv.2.2.2.2.2) hk (ii_add z n).symm (LH_len hv.2.2.2.2.2 1 (by simp only [List.length_cons]; omega)) rfl (fun lsB hB => ?_)
  exact k p e s m args below meth c H locs cells slots R lsB ⟨hv.1, hv.2.1, hv.2.2.1, hv.2.2.2.1, hv.2.2.2.2.1, LH_st (i := 1) (v := .int (ii (z + n))) hv.2.2.2.2.2 (okc_p (a := a0) rfl hc) hB⟩
theorem v_istn2 {x : Int32} {a0 a1 b : Option Value} {t : List (Option Value)} (hd : DC (mCc mt) pc (.istore_n 2) 1 pc2) (hc : okc a1 = true) (k : V l g mt dp Z bc bs pc2 (a0 :: a1 :: some (.int x) :: t) st S I X) : V l g mt dp Z bc bs pc (a0 :: a1 :: b :: t) (.int x :: st) S I X := by
  obtain ⟨hd1, rfl⟩ := hd
  intro p e s m args below meth c H locs cells slots R lsA hv
  refine lv_istore_n (i := 2) hv.1.1 hv.1.2.1 hd1 rfl (LH_has hv.2.2.2.2.2) (LH_len hv.2.2.2.2.2 2 (by simp only [List.length_cons]; omega)) rfl (fun lsB hB => ?_)
  exact k p e s m args below meth c H locs cells slots R lsB ⟨hv.1, hv.2.1, hv.2.2.1, hv.2.2.2.1, hv.2.2.2.2.1, LH_st (i := 2) (v := .int x) hv.2.2.2.2.2 (okc_p (a := a1) rfl hc) hB⟩
theorem v_astn2 {x : Nat} {a0 a1 b : Option Value} {t : List (Option Value)} (hd : DC (mCc mt) pc (.astore_n 2) 1 pc2) (hc : okc a1 = true) (k : V l g mt dp Z bc bs pc2 (a0 :: a1 :: some (.ref x) :: t) st S I X) : V l g mt dp Z bc bs pc (a0 :: a1 :: b :: t) (.ref x :: st) S I X := by
  obtain ⟨hd1, rfl⟩ := hd
  intro p e s m args below meth c H locs cells slots R lsA hv
  refine lv_astore_n (i := 2) hv.1.1 hv.1.2.1 hd1 rfl (LH_has hv.2.2.2.2.2) (LH_len hv.2.2.2.2.2 2 (by simp only [List.length_cons]; omega)) rfl (fun lsB hB => ?_)
  exact k p e s m args below meth c H locs cells slots R lsB ⟨hv.1, hv.2.1, hv.2.2.1, hv.2.2.2.1, hv.2.2.2.2.1, LH_st (i := 2) (v := .ref x) hv.2.2.2.2.2 (okc_p (a := a1) rfl hc) hB⟩
theorem v_lstn2 {x : Int64} {a0 a1 b b2 : Option Value} {t : List (Option Value)} (hd : DC (mCc mt) pc (.lstore_n 2) 1 pc2) (hc : okc a1 = true) (k : V l g mt dp Z bc bs pc2 (a0 :: a1 :: some (.long x) :: none :: t) st S I X) : V l g mt dp Z bc bs pc (a0 :: a1 :: b :: b2 :: t) (.long x :: st) S I X := by
  obtain ⟨hd1, rfl⟩ := hd
  intro p e s m args below meth c H locs cells slots R lsA hv
  refine lv_lstore_n (i := 2) hv.1.1 hv.1.2.1 hd1 rfl (LH_has hv.2.2.2.2.2) (LH_len hv.2.2.2.2.2 3 (by simp only [List.length_cons]; omega)) rfl (fun lsB hB => ?_)
  exact k p e s m args below meth c H locs cells slots R lsB ⟨hv.1, hv.2.1, hv.2.2.1, hv.2.2.2.1, hv.2.2.2.2.1, LH_st2 (i := 2) (v := .long x) hv.2.2.2.2.2 (okc_p (a := a1) rfl hc) hB⟩
theorem v_ist2 {x : Int32} {a0 a1 b : Option Value} {t : List (Option Value)} (hd : DC (mCc mt) pc (.istore 2) 2 pc2) (hc : okc a1 = true) (k : V l g mt dp Z bc bs pc2 (a0 :: a1 :: some (.int x) :: t) st S I X) : V l g mt dp Z bc bs pc (a0 :: a1 :: b :: t) (.int x :: st) S I X := by
  obtain ⟨hd1, rfl⟩ := hd
  intro p e s m args below meth c H locs cells slots R lsA hv
  refine lv_istore (i := 2) hv.1.1 hv.1.2.1 hd1 (LH_has hv.2.2.2.2.2) (LH_len hv.2.2.2.2.2 2 (by simp only [List.length_cons]; omega)) rfl (fun lsB hB => ?_)
  exact k p e s m args below meth c H locs cells slots R lsB ⟨hv.1, hv.2.1, hv.2.2.1, hv.2.2.2.1, hv.2.2.2.2.1, LH_st (i := 2) (v := .int x) hv.2.2.2.2.2 (okc_p (a := a1) rfl hc) hB⟩
theorem v_ast2 {x : Nat} {a0 a1 b : Option Value} {t : List (Option Value)} (hd : DC (mCc mt) pc (.astore 2) 2 pc2) (hc : okc a1 = true) (k : V l g mt dp Z bc bs pc2 (a0 :: a1 :: some (.ref x) :: t) st S I X) : V l g mt dp Z bc bs pc (a0 :: a1 :: b :: t) (.ref x :: st) S I X := by
  obtain ⟨hd1, rfl⟩ := hd
  intro p e s m args below meth c H locs cells slots R lsA hv
  refine lv_astore (i := 2) hv.1.1 hv.1.2.1 hd1 (LH_has hv.2.2.2.2.2) (LH_len hv.2.2.2.2.2 2 (by simp only [List.length_cons]; omega)) rfl (fun lsB hB => ?_)
  exact k p e s m args below meth c H locs cells slots R lsB ⟨hv.1, hv.2.1, hv.2.2.1, hv.2.2.2.1, hv.2.2.2.2.1, LH_st (i := 2) (v := .ref x) hv.2.2.2.2.2 (okc_p (a := a1) rfl hc) hB⟩
theorem v_fst2 {x : UInt32} {a0 a1 b : Option Value} {t : List (Option Value)} (hd : DC (mCc mt) pc (.fstore 2) 2 pc2) (hc : okc a1 = true) (k : V l g mt dp Z bc bs pc2 (a0 :: a1 :: some (.float x) :: t) st S I X) : V l g mt dp Z bc bs pc (a0 :: a1 :: b :: t) (.float x :: st) S I X := by
  obtain ⟨hd1, rfl⟩ := hd
  intro p e s m args below meth c H locs cells slots R lsA hv
  refine lv_fstore (i := 2) hv.1.1 hv.1.2.1 hd1 (LH_has hv.2.2.2.2.2) (LH_len hv.2.2.2.2.2 2 (by simp only [List.length_cons]; omega)) rfl (fun lsB hB => ?_)
  exact k p e s m args below meth c H locs cells slots R lsB ⟨hv.1, hv.2.1, hv.2.2.1, hv.2.2.2.1, hv.2.2.2.2.1, LH_st (i := 2) (v := .float x) hv.2.2.2.2.2 (okc_p (a := a1) rfl hc) hB⟩
theorem v_lst2 {x : Int64} {a0 a1 b b2 : Option Value} {t : List (Option Value)} (hd : DC (mCc mt) pc (.lstore 2) 2 pc2) (hc : okc a1 = true) (k : V l g mt dp Z bc bs pc2 (a0 :: a1 :: some (.long x) :: none :: t) st S I X) : V l g mt dp Z bc bs pc (a0 :: a1 :: b :: b2 :: t) (.long x :: st) S I X := by
  obtain ⟨hd1, rfl⟩ := hd
  intro p e s m args below meth c H locs cells slots R lsA hv
  refine lv_lstore (i := 2) hv.1.1 hv.1.2.1 hd1 (LH_has hv.2.2.2.2.2) (LH_len hv.2.2.2.2.2 3 (by simp only [List.length_cons]; omega)) rfl (fun lsB hB => ?_)
  exact k p e s m args below meth c H locs cells slots R lsB ⟨hv.1, hv.2.1, hv.2.2.1, hv.2.2.2.1, hv.2.2.2.2.1, LH_st2 (i := 2) (v := .long x) hv.2.2.2.2.2 (okc_p (a := a1) rfl hc) hB⟩
theorem v_iinc2 {z n : Int} {a0 a1 : Option Value} {t : List (Option Value)} (hd : DC (mCc mt) pc (.iinc 2 n) 3 pc2) (hc : okc a1 = true) (k : V l g mt dp Z bc bs pc2 (a0 :: a1 :: some (.int (ii (z + n))) :: t) st S I X) : V l g mt dp Z bc bs pc (a0 :: a1 :: some (.int (ii z)) :: t) st S I X := by
  obtain ⟨hd1, rfl⟩ := hd
  intro p e s m args below meth c H locs cells slots R lsA hv
  obtain ⟨kx, hk⟩ := List.getElem?_of_mem (lvl_mem (g := g) (a0 :: a1 :: some (.int (ii z)) :: t) 0 2 (.int (ii z)) rfl)
  refine lv_iinc (i := 2) (k := kx) hv.1.1 hv.1.2.1 hd1 (LH_has hv.2.2.2.2.2) hk (ii_add z n).symm (LH_len hv.2.2.2.2.2 2 (by simp only [List.length_cons]; omega)) rfl (fun lsB hB => ?_)
  exact k p e s m args below meth c H locs cells slots R lsB ⟨hv.1, hv.2.1, hv.2.2.1, hv.2.2.2.1, hv.2.2.2.2.1, LH_st (i := 2) (v := .int (ii (z + n))) hv.2.2.2.2.2 (okc_p (a := a1) rfl hc) hB⟩
theorem v_istn3 {x : Int32} {a0 a1 a2 b : Option Value} {t : List (Option Value)} (hd : DC (mCc mt) pc (.istore_n 3) 1 pc2) (hc : okc a2 = true) (k : V l g mt dp Z bc bs pc2 (a0 :: a1 :: a2 :: some (.int x) :: t) st S I X) : V l g mt dp Z bc bs pc (a0 :: a1 :: a2 :: b :: t) (.int x :: st) S I X := by
  obtain ⟨hd1, rfl⟩ := hd
  intro p e s m args below meth c H locs cells slots R lsA hv
  refine lv_istore_n (i := 3) hv.1.1 hv.1.2.1 hd1 rfl (LH_has hv.2.2.2.2.2) (LH_len hv.2.2.2.2.2 3 (by simp only [List.length_cons]; omega)) rfl (fun lsB hB => ?_)
  exact k p e s m args below meth c H locs cells slots R lsB ⟨hv.1, hv.2.1, hv.2.2.1, hv.2.2.2.1, hv.2.2.2.2.1, LH_st (i := 3) (v := .int x) hv.2.2.2.2.2 (okc_p (a := a2) rfl hc) hB⟩
theorem v_astn3 {x : Nat} {a0 a1 a2 b : Option Value} {t : List (Option Value)} (hd : DC (mCc mt) pc (.astore_n 3) 1 pc2) (hc : okc a2 = true) (k : V l g mt dp Z bc bs pc2 (a0 :: a1 :: a2 :: some (.ref x) :: t) st S I X) : V l g mt dp Z bc bs pc (a0 :: a1 :: a2 :: b :: t) (.ref x :: st) S I X := by
  obtain ⟨hd1, rfl⟩ := hd
  intro p e s m args below meth c H locs cells slots R lsA hv
  refine lv_astore_n (i := 3) hv.1.1 hv.1.2.1 hd1 rfl (LH_has hv.2.2.2.2.2) (LH_len hv.2.2.2.2.2 3 (by simp only [List.length_cons]; omega)) rfl (fun lsB hB => ?_)
  exact k p e s m args below meth c H locs cells slots R lsB ⟨hv.1, hv.2.1, hv.2.2.1, hv.2.2.2.1, hv.2.2.2.2.1, LH_st (i := 3) (v := .ref x) hv.2.2.2.2.2 (okc_p (a := a2) rfl hc) hB⟩
theorem v_lstn3 {x : Int64} {a0 a1 a2 b b2 : Option Value} {t : List (Option Value)} (hd : DC (mCc mt) pc (.lstore_n 3) 1 pc2) (hc : okc a2 = true) (k : V l g mt dp Z bc bs pc2 (a0 :: a1 :: a2 :: some (.long x) :: none :: t) st S I X) : V l g mt dp Z bc bs pc (a0 :: a1 :: a2 :: b :: b2 :: t) (.long x :: st) S I X := by
  obtain ⟨hd1, rfl⟩ := hd
  intro p e s m args below meth c H locs cells slots R lsA hv
  refine lv_lstore_n (i := 3) hv.1.1 hv.1.2.1 hd1 rfl (LH_has hv.2.2.2.2.2) (LH_len hv.2.2.2.2.2 4 (by simp only [List.length_cons]; omega)) rfl (fun lsB hB => ?_)
  exact k p e s m args below meth c H locs cells slots R lsB ⟨hv.1, hv.2.1, hv.2.2.1, hv.2.2.2.1, hv.2.2.2.2.1, LH_st2 (i := 3) (v := .long x) hv.2.2.2.2.2 (okc_p (a := a2) rfl hc) hB⟩
theorem v_ist3 {x : Int32} {a0 a1 a2 b : Option Value} {t : List (Option Value)} (hd : DC (mCc mt) pc (.istore 3) 2 pc2) (hc : okc a2 = true) (k : V l g mt dp Z bc bs pc2 (a0 :: a1 :: a2 :: some (.int x) :: t) st S I X) : V l g mt dp Z bc bs pc (a0 :: a1 :: a2 :: b :: t) (.int x :: st) S I X := by
  obtain ⟨hd1, rfl⟩ := hd
  intro p e s m args below meth c H locs cells slots R lsA hv
  refine lv_istore (i := 3) hv.1.1 hv.1.2.1 hd1 (LH_has hv.2.2.2.2.2) (LH_len hv.2.2.2.2.2 3 (by simp only [List.length_cons]; omega)) rfl (fun lsB hB => ?_)
  exact k p e s m args below meth c H locs cells slots R lsB ⟨hv.1, hv.2.1, hv.2.2.1, hv.2.2.2.1, hv.2.2.2.2.1, LH_st (i := 3) (v := .int x) hv.2.2.2.2.2 (okc_p (a := a2) rfl hc) hB⟩
theorem v_ast3 {x : Nat} {a0 a1 a2 b : Option Value} {t : List (Option Value)} (hd : DC (mCc mt) pc (.astore 3) 2 pc2) (hc : okc a2 = true) (k : V l g mt dp Z bc bs pc2 (a0 :: a1 :: a2 :: some (.ref x) :: t) st S I X) : V l g mt dp Z bc bs pc (a0 :: a1 :: a2 :: b :: t) (.ref x :: st) S I X := by
  obtain ⟨hd1, rfl⟩ := hd
  intro p e s m args below meth c H locs cells slots R lsA hv
  refine lv_astore (i := 3) hv.1.1 hv.1.2.1 hd1 (LH_has hv.2.2.2.2.2) (LH_len hv.2.2.2.2.2 3 (by simp only [List.length_cons]; omega)) rfl (fun lsB hB => ?_)
  exact k p e s m args below meth c H locs cells slots R lsB ⟨hv.1, hv.2.1, hv.2.2.1, hv.2.2.2.1, hv.2.2.2.2.1, LH_st (i := 3) (v := .ref x) hv.2.2.2.2.2 (okc_p (a := a2) rfl hc) hB⟩
theorem v_fst3 {x : UInt32} {a0 a1 a2 b : Option Value} {t : List (Option Value)} (hd : DC (mCc mt) pc (.fstore 3) 2 pc2) (hc : okc a2 = true) (k : V l g mt dp Z bc bs pc2 (a0 :: a1 :: a2 :: some (.float x) :: t) st S I X) : V l g mt dp Z bc bs pc (a0 :: a1 :: a2 :: b :: t) (.float x :: st) S I X := by
  obtain ⟨hd1, rfl⟩ := hd
  intro p e s m args below meth c H locs cells slots R lsA hv
  refine lv_fstore (i := 3) hv.1.1 hv.1.2.1 hd1 (LH_has hv.2.2.2.2.2) (LH_len hv.2.2.2.2.2 3 (by simp only [List.length_cons]; omega)) rfl (fun lsB hB => ?_)
  exact k p e s m args below meth c H locs cells slots R lsB ⟨hv.1, hv.2.1, hv.2.2.1, hv.2.2.2.1, hv.2.2.2.2.1, LH_st (i := 3) (v := .float x) hv.2.2.2.2.2 (okc_p (a := a2) rfl hc) hB⟩
theorem v_lst3 {x : Int64} {a0 a1 a2 b b2 : Option Value} {t : List (Option Value)} (hd : DC (mCc mt) pc (.lstore 3) 2 pc2) (hc : okc a2 = true) (k : V l g mt dp Z bc bs pc2 (a0 :: a1 :: a2 :: some (.long x) :: none :: t) st S I X) : V l g mt dp Z bc bs pc (a0 :: a1 :: a2 :: b :: b2 :: t) (.long x :: st) S I X := by
  obtain ⟨hd1, rfl⟩ := hd
  intro p e s m args below meth c H locs cells slots R lsA hv
  refine lv_lstore (i := 3) hv.1.1 hv.1.2.1 hd1 (LH_has hv.2.2.2.2.2) (LH_len hv.2.2.2.2.2 4 (by simp only [List.length_cons]; omega)) rfl (fun lsB hB => ?_)
  exact k p e s m args below meth c H locs cells slots R lsB ⟨hv.1, hv.2.1, hv.2.2.1, hv.2.2.2.1, hv.2.2.2.2.1, LH_st2 (i := 3) (v := .long x) hv.2.2.2.2.2 (okc_p (a := a2) rfl hc) hB⟩
theorem v_iinc3 {z n : Int} {a0 a1 a2 : Option Value} {t : List (Option Value)} (hd : DC (mCc mt) pc (.iinc 3 n) 3 pc2) (hc : okc a2 = true) (k : V l g mt dp Z bc bs pc2 (a0 :: a1 :: a2 :: some (.int (ii (z + n))) :: t) st S I X) : V l g mt dp Z bc bs pc (a0 :: a1 :: a2 :: some (.int (ii z)) :: t) st S I X := by
  obtain ⟨hd1, rfl⟩ := hd
  intro p e s m args below meth c H locs cells slots R lsA hv
  obtain ⟨kx, hk⟩ := List.getElem?_of_mem (lvl_mem (g := g) (a0 :: a1 :: a2 :: some (.int (ii z)) :: t) 0 3 (.int (ii z)) rfl)
  refine lv_iinc (i := 3) (k := kx) hv.1.1 hv.1.2.1 hd1 (LH_has hv.2.2.2.2.2) hk (ii_add z n).symm (LH_len hv.2.2.2.2.2 3 (by simp only [List.length_cons]; omega)) rfl (fun lsB hB => ?_)
  exact k p e s m args below meth c H locs cells slots R lsB ⟨hv.1, hv.2.1, hv.2.2.1, hv.2.2.2.1, hv.2.2.2.2.1, LH_st (i := 3) (v := .int (ii (z + n))) hv.2.2.2.2.2 (okc_p (a := a2) rfl hc) hB⟩
theorem v_ist4 {x : Int32} {a0 a1 a2 a3 b : Option Value} {t : List (Option Value)} (hd : DC (mCc mt) pc (.istore 4) 2 pc2) (hc : okc a3 = true) (k : V l g mt dp Z bc bs pc2 (a0 :: a1 :: a2 :: a3 :: some (.int x) :: t) st S I X) : V l g mt dp Z bc bs pc (a0 :: a1 :: a2 :: a3 :: b :: t) (.int x :: st) S I X := by
  obtain ⟨hd1, rfl⟩ := hd
  intro p e s m args below meth c H locs cells slots R lsA hv
  refine lv_istore (i := 4) hv.1.1 hv.1.2.1 hd1 (LH_has hv.2.2.2.2.2) (LH_len hv.2.2.2.2.2 4 (by simp only [List.length_cons]; omega)) rfl (fun lsB hB => ?_)
  exact k p e s m args below meth c H locs cells slots R lsB ⟨hv.1, hv.2.1, hv.2.2.1, hv.2.2.2.1, hv.2.2.2.2.1, LH_st (i := 4) (v := .int x) hv.2.2.2.2.2 (okc_p (a := a3) rfl hc) hB⟩
theorem v_ast4 {x : Nat} {a0 a1 a2 a3 b : Option Value} {t : List (Option Value)} (hd : DC (mCc mt) pc (.astore 4) 2 pc2) (hc : okc a3 = true) (k : V l g mt dp Z bc bs pc2 (a0 :: a1 :: a2 :: a3 :: some (.ref x) :: t) st S I X) : V l g mt dp Z bc bs pc (a0 :: a1 :: a2 :: a3 :: b :: t) (.ref x :: st) S I X := by
  obtain ⟨hd1, rfl⟩ := hd
  intro p e s m args below meth c H locs cells slots R lsA hv
  refine lv_astore (i := 4) hv.1.1 hv.1.2.1 hd1 (LH_has hv.2.2.2.2.2) (LH_len hv.2.2.2.2.2 4 (by simp only [List.length_cons]; omega)) rfl (fun lsB hB => ?_)
  exact k p e s m args below meth c H locs cells slots R lsB ⟨hv.1, hv.2.1, hv.2.2.1, hv.2.2.2.1, hv.2.2.2.2.1, LH_st (i := 4) (v := .ref x) hv.2.2.2.2.2 (okc_p (a := a3) rfl hc) hB⟩
theorem v_fst4 {x : UInt32} {a0 a1 a2 a3 b : Option Value} {t : List (Option Value)} (hd : DC (mCc mt) pc (.fstore 4) 2 pc2) (hc : okc a3 = true) (k : V l g mt dp Z bc bs pc2 (a0 :: a1 :: a2 :: a3 :: some (.float x) :: t) st S I X) : V l g mt dp Z bc bs pc (a0 :: a1 :: a2 :: a3 :: b :: t) (.float x :: st) S I X := by
  obtain ⟨hd1, rfl⟩ := hd
  intro p e s m args below meth c H locs cells slots R lsA hv
  refine lv_fstore (i := 4) hv.1.1 hv.1.2.1 hd1 (LH_has hv.2.2.2.2.2) (LH_len hv.2.2.2.2.2 4 (by simp only [List.length_cons]; omega)) rfl (fun lsB hB => ?_)
  exact k p e s m args below meth c H locs cells slots R lsB ⟨hv.1, hv.2.1, hv.2.2.1, hv.2.2.2.1, hv.2.2.2.2.1, LH_st (i := 4) (v := .float x) hv.2.2.2.2.2 (okc_p (a := a3) rfl hc) hB⟩
theorem v_lst4 {x : Int64} {a0 a1 a2 a3 b b2 : Option Value} {t : List (Option Value)} (hd : DC (mCc mt) pc (.lstore 4) 2 pc2) (hc : okc a3 = true) (k : V l g mt dp Z bc bs pc2 (a0 :: a1 :: a2 :: a3 :: some (.long x) :: none :: t) st S I X) : V l g mt dp Z bc bs pc (a0 :: a1 :: a2 :: a3 :: b :: b2 :: t) (.long x :: st) S I X := by
  obtain ⟨hd1, rfl⟩ := hd
  intro p e s m args below meth c H locs cells slots R lsA hv
  refine lv_lstore (i := 4) hv.1.1 hv.1.2.1 hd1 (LH_has hv.2.2.2.2.2) (LH_len hv.2.2.2.2.2 5 (by simp only [List.length_cons]; omega)) rfl (fun lsB hB => ?_)
  exact k p e s m args below meth c H locs cells slots R lsB ⟨hv.1, hv.2.1, hv.2.2.1, hv.2.2.2.1, hv.2.2.2.2.1, LH_st2 (i := 4) (v := .long x) hv.2.2.2.2.2 (okc_p (a := a3) rfl hc) hB⟩
theorem v_iinc4 {z n : Int} {a0 a1 a2 a3 : Option Value} {t : List (Option Value)} (hd : DC (mCc mt) pc (.iinc 4 n) 3 pc2) (hc : okc a3 = true) (k : V l g mt dp Z bc bs pc2 (a0 :: a1 :: a2 :: a3 :: some (.int (ii (z + n))) :: t) st S I X) : V l g mt dp Z bc bs pc (a0 :: a1 :: a2 :: a3 :: some (.int (ii z)) :: t) st S I X := by
  obtain ⟨hd1, rfl⟩ := hd
  intro p e s m args below meth c H locs cells slots R lsA hv
  obtain ⟨kx, hk⟩ := List.getElem?_of_mem (lvl_mem (g := g) (a0 :: a1 :: a2 :: a3 :: some (.int (ii z)) :: t) 0 4 (.int (ii z)) rfl)
  refine lv_iinc (i := 4) (k := kx) hv.1.1 hv.1.2.1 hd1 (LH_has hv.2.2.2.2.2) hk (ii_add z n).symm (LH_len hv.2.2.2.2.2 4 (by simp only [List.length_cons]; omega)) rfl (fun lsB hB => ?_)
  exact k p e s m args below meth c H locs cells slots R lsB ⟨hv.1, hv.2.1, hv.2.2.1, hv.2.2.2.1, hv.2.2.2.2.1, LH_st (i := 4) (v := .int (ii (z + n))) hv.2.2.2.2.2 (okc_p (a := a3) rfl hc) hB⟩
theorem v_ist5 {x : Int32} {a0 a1 a2 a3 a4 b : Option Value} {t : List (Option Value)} (hd : DC (mCc mt) pc (.istore 5) 2 pc2) (hc : okc a4 = true) (k : V l g mt dp Z bc bs pc2 (a0 :: a1 :: a2 :: a3 :: a4 :: some (.int x) :: t) st S I X) : V l g mt dp Z bc bs pc (a0 :: a1 :: a2 :: a3 :: a4 :: b :: t) (.int x :: st) S I X := by
  obtain ⟨hd1, rfl⟩ := hd
  intro p e s m args below meth c H locs cells slots R lsA hv
  refine lv_istore (i := 5) hv.1.1 hv.1.2.1 hd1 (LH_has hv.2.2.2.2.2) (LH_len hv.2.2.2.2.2 5 (by simp only [List.length_cons]; omega)) rfl (fun lsB hB => ?_)
  exact k p e s m args below meth c H locs cells slots R lsB ⟨hv.1, hv.2.1, hv.2.2.1, hv.2.2.2.1, hv.2.2.2.2.1, LH_st (i := 5) (v := .int x) hv.2.2.2.2.2 (okc_p (a := a4) rfl hc) hB⟩
theorem v_ast5 {x : Nat} {a0 a1 a2 a3 a4 b : Option Value} {t : List (Option Value)} (hd : DC (mCc mt) pc (.astore 5) 2 pc2) (hc : okc a4 = true) (k : V l g mt dp Z bc bs pc2 (a0 :: a1 :: a2 :: a3 :: a4 :: some (.ref x) :: t) st S I X) : V l g mt dp Z bc bs pc (a0 :: a1 :: a2 :: a3 :: a4 :: b :: t) (.ref x :: st) S I X := by
  obtain ⟨hd1, rfl⟩ := hd
  intro p e s m args below meth c H locs cells slots R lsA hv
  refine lv_astore (i := 5) hv.1.1 hv.1.2.1 hd1 (LH_has hv.2.2.2.2.2) (LH_len hv.2.2.2.2.2 5 (by simp only [List.length_cons]; omega)) rfl (fun lsB hB => ?_)
  exact k p e s m args below meth c H locs cells slots R lsB ⟨hv.1, hv.2.1, hv.2.2.1, hv.2.2.2.1, hv.2.2.2.2.1, LH_st (i := 5) (v := .ref x) hv.2.2.2.2.2 (okc_p (a := a4) rfl hc) hB⟩
theorem v_fst5 {x : UInt32} {a0 a1 a2 a3 a4 b : Option Value} {t : List (Option Value)} (hd : DC (mCc mt) pc (.fstore 5) 2 pc2) (hc : okc a4 = true) (k : V l g mt dp Z bc bs pc2 (a0 :: a1 :: a2 :: a3 :: a4 :: some (.float x) :: t) st S I X) : V l g mt dp Z bc bs pc (a0 :: a1 :: a2 :: a3 :: a4 :: b :: t) (.float x :: st) S I X := by
  obtain ⟨hd1, rfl⟩ := hd
  intro p e s m args below meth c H locs cells slots R lsA hv
  refine lv_fstore (i := 5) hv.1.1 hv.1.2.1 hd1 (LH_has hv.2.2.2.2.2) (LH_len hv.2.2.2.2.2 5 (by simp only [List.length_cons]; omega)) rfl (fun lsB hB => ?_)
  exact k p e s m args below meth c H locs cells slots R lsB ⟨hv.1, hv.2.1, hv.2.2.1, hv.2.2.2.1, hv.2.2.2.2.1, LH_st (i := 5) (v := .float x) hv.2.2.2.2.2 (okc_p (a := a4) rfl hc) hB⟩
theorem v_lst5 {x : Int64} {a0 a1 a2 a3 a4 b b2 : Option Value} {t : List (Option Value)} (hd : DC (mCc mt) pc (.lstore 5) 2 pc2) (hc : okc a4 = true) (k : V l g mt dp Z bc bs pc2 (a0 :: a1 :: a2 :: a3 :: a4 :: some (.long x) :: none :: t) st S I X) : V l g mt dp Z bc bs pc (a0 :: a1 :: a2 :: a3 :: a4 :: b :: b2 :: t) (.long x :: st) S I X := by
  obtain ⟨hd1, rfl⟩ := hd
  intro p e s m args below meth c H locs cells slots R lsA hv
  refine lv_lstore (i := 5) hv.1.1 hv.1.2.1 hd1 (LH_has hv.2.2.2.2.2) (LH_len hv.2.2.2.2.2 6 (by simp only [List.length_cons]; omega)) rfl (fun lsB hB => ?_)
  exact k p e s m args below meth c H locs cells slots R lsB ⟨hv.1, hv.2.1, hv.2.2.1, hv.2.2.2.1, hv.2.2.2.2.1, LH_st2 (i := 5) (v := .long x) hv.2.2.2.2.2 (okc_p (a := a4) rfl hc) hB⟩
theorem v_iinc5 {z n : Int} {a0 a1 a2 a3 a4 : Option Value} {t : List (Option Value)} (hd : DC (mCc mt) pc (.iinc 5 n) 3 pc2) (hc : okc a4 = true) (k : V l g mt dp Z bc bs pc2 (a0 :: a1 :: a2 :: a3 :: a4 :: some (.int (ii (z + n))) :: t) st S I X) : V l g mt dp Z bc bs pc (a0 :: a1 :: a2 :: a3 :: a4 :: some (.int (ii z)) :: t) st S I X := by
  obtain ⟨hd1, rfl⟩ := hd
  intro p e s m args below meth c H locs cells slots R lsA hv
  obtain ⟨kx, hk⟩ := List.getElem?_of_mem (lvl_mem (g := g) (a0 :: a1 :: a2 :: a3 :: a4 :: some (.int (ii z)) :: t) 0 5 (.int (ii z)) rfl)
  refine lv_iinc (i := 5) (k := kx) hv.1.1 hv.1.2.1 hd1 (LH_has hv.2.2.2.2.2) hk (ii_add z n).symm (LH_len hv.2.2.2.2.2 5 (by simp only [List.length_cons]; omega)) rfl (fun lsB hB => ?_)
  exact k p e s m args below meth c H locs cells slots R lsB ⟨hv.1, hv.2.1, hv.2.2.1, hv.2.2.2.1, hv.2.2.2.2.1, LH_st (i := 5) (v := .int (ii (z + n))) hv.2.2.2.2.2 (okc_p (a := a4) rfl hc) hB⟩
theorem v_ist6 {x : Int32} {a0 a1 a2 a3 a4 a5 b : Option Value} {t : List (Option Value)} (hd : DC (mCc mt) pc (.istore 6) 2 pc2) (hc : okc a5 = true) (k : V l g mt dp Z bc bs pc2 (a0 :: a1 :: a2 :: a3 :: a4 :: a5 :: some (.int x) :: t) st S I X) : V l g mt dp Z bc bs pc (a0 :: a1 :: a2 :: a3 :: a4 :: a5 :: b :: t) (.int x :: st) S I X := by
  obtain ⟨hd1, rfl⟩ := hd
  intro p e s m args below meth c H locs cells slots R lsA hv
  refine lv_istore (i := 6) hv.1.1 hv.1.2.1 hd1 (LH_has hv.2.2.2.2.2) (LH_len hv.2.2.2.2.2 6 (by simp only [List.length_cons]; omega)) rfl (fun lsB hB => ?_)
  exact k p e s m args below meth c H locs cells slots R lsB ⟨hv.1, hv.2.1, hv.2.2.1, hv.2.2.2.1, hv.2.2.2.2.1, LH_st (i := 6) (v := .int x) hv.2.2.2.2.2 (okc_p (a := a5) rfl hc) hB⟩
theorem v_ast6 {x : Nat} {a0 a1 a2 a3 a4 a5 b : Option Value} {t : List (Option Value)} (hd : DC (mCc mt) pc (.astore 6) 2 pc2) (hc : okc a5 = true) (k : V l g mt dp Z bc bs pc2 (a0 :: a1 :: a2 :: a3 :: a4 :: a5 :: some (.ref x) :: t) st S I X) : V l g mt dp Z bc bs pc (a0 :: a1 :: a2 :: a3 :: a4 :: a5 :: b :: t) (.ref x :: st) S I X := by
  obtain ⟨hd1, rfl⟩ := hd
  intro p e s m args below meth c H locs cells slots R lsA hv
  refine lv_astore (i := 6) hv.1.1 hv.1.2.1 hd1 (LH_has hv.2.2.2.2.2) (LH_len hv.2.2.2.2.2 6 (by simp only [List.length_cons]; omega)) rfl (fun lsB hB => ?_)
  exact k p e s m args below meth c H locs cells slots R lsB ⟨hv.1, hv.2.1, hv.2.2.1, hv.2.2.2.1, hv.2.2.2.2.1, LH_st (i := 6) (v := .ref x) hv.2.2.2.2.2 (okc_p (a := a5) rfl hc) hB⟩
theorem v_fst6 {x : UInt32} {a0 a1 a2 a3 a4 a5 b : Option Value} {t : List (Option Value)} (hd : DC (mCc mt) pc (.fstore 6) 2 pc2) (hc : okc a5 = true) (k : V l g mt dp Z bc bs pc2 (a0 :: a1 :: a2 :: a3 :: a4 :: a5 :: some (.float x) :: t) st S I X) : V l g mt dp Z bc bs pc (a0 :: a1 :: a2 :: a3 :: a4 :: a5 :: b :: t) (.float x :: st) S I X := by
  obtain ⟨hd1, rfl⟩ := hd
  intro p e s m args below meth c H locs cells slots R lsA hv
  refine lv_fstore (i := 6) hv.1.1 hv.1.2.1 hd1 (LH_has hv.2.2.2.2.2) (LH_len hv.2.2.2.2.2 6 (by simp only [List.length_cons]; omega)) rfl (fun lsB hB => ?_)
  exact k p e s m args below meth c H locs cells slots R lsB ⟨hv.1, hv.2.1, hv.2.2.1, hv.2.2.2.1, hv.2.2.2.2.1, LH_st (i := 6) (v := .float x) hv.2.2.2.2.2 (okc_p (a := a5) rfl hc) hB⟩
theorem v_lst6 {x : Int64} {a0 a1 a2 a3 a4 a5 b b2 : Option Value} {t : List (Option Value)} (hd : DC (mCc mt) pc (.lstore 6) 2 pc2) (hc : okc a5 = true) (k : V l g mt dp Z bc bs pc2 (a0 :: a1 :: a2 :: a3 :: a4 :: a5 :: some (.long x) :: none :: t) st S I X) : V l g mt dp Z bc bs pc (a0 :: a1 :: a2 :: a3 :: a4 :: a5 :: b :: b2 :: t) (.long x :: st) S I X := by
  obtain ⟨hd1, rfl⟩ := hd
  intro p e s m args below meth c H locs cells slots R lsA hv
  refine lv_lstore (i := 6) hv.1.1 hv.1.2.1 hd1 (LH_has hv.2.2.2.2.2) (LH_len hv.2.2.2.2.2 7 (by simp only [List.length_cons]; omega)) rfl (fun lsB hB => ?_)
  exact k p e s m args below meth c H locs cells slots R lsB ⟨hv.1, hv.2.1, hv.2.2.1, hv.2.2.2.1, hv.2.2.2.2.1, LH_st2 (i := 6) (v := .long x) hv.2.2.2.2.2 (okc_p (a := a5) rfl hc) hB⟩
theorem v_iinc6 {z n : Int} {a0 a1 a2 a3 a4 a5 : Option Value} {t : List (Option Value)} (hd : DC (mCc mt) pc (.iinc 6 n) 3 pc2) (hc : okc a5 = true) (k : V l g mt dp Z bc bs pc2 (a0 :: a1 :: a2 :: a3 :: a4 :: a5 :: some (.int (ii (z + n))) :: t) st S I X) : V l g mt dp Z bc bs pc (a0 :: a1 :: a2 :: a3 :: a4 :: a5 :: some (.int (ii z)) :: t) st S I X := by
  obtain ⟨hd1, rfl⟩ := hd
  intro p e s m args below meth c H locs cells slots R lsA hv
  obtain ⟨kx, hk⟩ := List.getElem?_of_mem (lvl_mem (g := g) (a0 :: a1 :: a2 :: a3 :: a4 :: a5 :: some (.int (ii z)) :: t) 0 6 (.int (ii z)) rfl)
  refine lv_iinc (i := 6) (k := kx) hv.1.1 hv.1.2.1 hd1 (LH_has hv.2.2.2.2.2) hk (ii_add z n).symm (LH_len hv.2.2.2.2.2 6 (by simp only [List.length_cons]; omega)) rfl (fun lsB hB => ?_)
  exact k p e s m args below meth c H locs cells slots R lsB ⟨hv.1, hv.2.1, hv.2.2.1, hv.2.2.2.1, hv.2.2.2.2.1, LH_st (i := 6) (v := .int (ii (z + n))) hv.2.2.2.2.2 (okc_p (a := a5) rfl hc) hB⟩
theorem v_ist7 {x : Int32} {a0 a1 a2 a3 a4 a5 a6 b : Option Value} {t : List (Option Value)} (hd : DC (mCc mt) pc (.istore 7) 2 pc2) (hc : okc a6 = true) (k : V l g mt dp Z bc bs pc2 (a0 :: a1 :: a2 :: a3 :: a4 :: a5 :: a6 :: some (.int x) :: t) st S I X) : V l g mt dp Z bc bs pc (a0 :: a1 :: a2 :: a3 :: a4 :: a5 :: a6 :: b :: t) (.int x :: st) S I X := by
  obtain ⟨hd1, rfl⟩ := hd
  intro p e s m args below meth c H locs cells slots R lsA hv
  refine lv_istore (i := 7) hv.1.1 hv.1.2.1 hd1 (LH_has hv.2.2.2.2.2) (LH_len hv.2.2.2.2.2 7 (by simp only [List.length_cons]; omega)) rfl (fun lsB hB => ?_)
  exact k p e s m args below meth c H locs cells slots R lsB ⟨hv.1, hv.2.1, hv.2.2.1, hv.2.2.2.1, hv.2.2.2.2.1, LH_st (i := 7) (v := .int x) hv.2.2.2.2.2 (okc_p (a := a6) rfl hc) hB⟩
theorem v_ast7 {x : Nat} {a0 a1 a2 a3 a4 a5 a6 b : Option Value} {t : List (Option Value)} (hd : DC (mCc mt) pc (.astore 7) 2 pc2) (hc : okc a6 = true) (k : V l g mt dp Z bc bs pc2 (a0 :: a1 :: a2 :: a3 :: a4 :: a5 :: a6 :: some (.ref x) :: t) st S I X) : V l g mt dp Z bc bs pc (a0 :: a1 :: a2 :: a3 :: a4 :: a5 :: a6 :: b :: t) (.ref x :: st) S I X := by
  obtain ⟨hd1, rfl⟩ := hd
  intro p e s m args below meth c H locs cells slots R lsA hv
  refine lv_astore (i := 7) hv.1.1 hv.1.2.1 hd1 (LH_has hv.2.2.2.2.2) (LH_len hv.2.2.2.2.2 7 (by simp only [List.length_cons]; omega)) rfl (fun lsB hB => ?_)
  exact k p e s m args below meth c H locs cells slots R lsB ⟨hv.1, hv.2.1, hv.2.2.1, hv.2.2.2.1, hv.2.2.2.2.1, LH_st (i := 7) (v := .ref x) hv.2.2.2.2.2 (okc_p (a := a6) rfl hc) hB⟩
theorem v_fst7 {x : UInt32} {a0 a1 a2 a3 a4 a5 a6 b : Option Value} {t : List (Option Value)} (hd : DC (mCc mt) pc (.fstore 7) 2 pc2) (hc : okc a6 = true) (k : V l g mt dp Z bc bs pc2 (a0 :: a1 :: a2 :: a3 :: a4 :: a5 :: a6 :: some (.float x) :: t) st S I X) : V l g mt dp Z bc bs pc (a0 :: a1 :: a2 :: a3 :: a4 :: a5 :: a6 :: b :: t) (.float x :: st) S I X := by
  obtain ⟨hd1, rfl⟩ := hd
  intro p e s m args below meth c H locs cells slots R lsA hv
  refine lv_fstore (i := 7) hv.1.1 hv.1.2.1 hd1 (LH_has hv.2.2.2.2.2) (LH_len hv.2.2.2.2.2 7 (by simp only [List.length_cons]; omega)) rfl (fun lsB hB => ?_)
  exact k p e s m args below meth c H locs cells slots R lsB ⟨hv.1, hv.2.1, hv.2.2.1, hv.2.2.2.1, hv.2.2.2.2.1, LH_st (i := 7) (v := .float x) hv.2.2.2.2.2 (okc_p (a := a6) rfl hc) hB⟩
theorem v_lst7 {x : Int64} {a0 a1 a2 a3 a4 a5 a6 b b2 : Option Value} {t : List (Option Value)} (hd : DC (mCc mt) pc (.lstore 7) 2 pc2) (hc : okc a6 = true) (k : V l g mt dp Z bc bs pc2 (a0 :: a1 :: a2 :: a3 :: a4 :: a5 :: a6 :: some (.long x) :: none :: t) st S I X) : V l g mt dp Z bc bs pc (a0 :: a1 :: a2 :: a3 :: a4 :: a5 :: a6 :: b :: b2 :: t) (.long x :: st) S I X := by
  obtain ⟨hd1, rfl⟩ := hd
  intro p e s m args below meth c H locs cells slots R lsA hv
  refine lv_lstore (i := 7) hv.1.1 hv.1.2.1 hd1 (LH_has hv.2.2.2.2.2) (LH_len hv.2.2.2.2.2 8 (by simp only [List.length_cons]; omega)) rfl (fun lsB hB => ?_)
  exact k p e s m args below meth c H locs cells slots R lsB ⟨hv.1, hv.2.1, hv.2.2.1, hv.2.2.2.1, hv.2.2.2.2.1, LH_st2 (i := 7) (v := .long x) hv.2.2.2.2.2 (okc_p (a := a6) rfl hc) hB⟩
theorem v_iinc7 {z n : Int} {a0 a1 a2 a3 a4 a5 a6 : Option Value} {t : List (Option Value)} (hd : DC (mCc mt) pc (.iinc 7 n) 3 pc2) (hc : okc a6 = true) (k : V l g mt dp Z bc bs pc2 (a0 :: a1 :: a2 :: a3 :: a4 :: a5 :: a6 :: some (.int (ii (z + n))) :: t) st S I X) : V l g mt dp Z bc bs pc (a0 :: a1 :: a2 :: a3 :: a4 :: a5 :: a6 :: some (.int (ii z)) :: t) st S I X := by
  obtain ⟨hd1, rfl⟩ := hd
  intro p e s m args below meth c H locs cells slots R lsA hv
  obtain ⟨kx, hk⟩ := List.getElem?_of_mem (lvl_mem (g := g) (a0 :: a1 :: a2 :: a3 :: a4 :: a5 :: a6 :: some (.int (ii z)) :: t) 0 7 (.int (ii z)) rfl)
  refine lv_iinc (i := 7) (k := kx) hv.1.1 hv.1.2.1 hd1 (LH_has hv.2.2.2.2.2) hk (ii_add z n).symm (LH_len hv.2.2.2.2.2 7 (by simp only [List.length_cons]; omega)) rfl (fun lsB hB => ?_)
  exact k p e s m args below meth c H locs cells slots R lsB ⟨hv.1, hv.2.1, hv.2.2.1, hv.2.2.2.1, hv.2.2.2.2.1, LH_st (i := 7) (v := .int (ii (z + n))) hv.2.2.2.2.2 (okc_p (a := a6) rfl hc) hB⟩
theorem v_ist8 {x : Int32} {a0 a1 a2 a3 a4 a5 a6 a7 b : Option Value} {t : List (Option Value)} (hd : DC (mCc mt) pc (.istore 8) 2 pc2) (hc : okc a7 = true) (k : V l g mt dp Z bc bs pc2 (a0 :: a1 :: a2 :: a3 :: a4 :: a5 :: a6 :: a7 :: some (.int x) :: t) st S I X) : V l g mt dp Z bc bs pc (a0 :: a1 :: a2 :: a3 :: a4 :: a5 :: a6 :: a7 :: b :: t) (.int x :: st) S I X := by
  obtain ⟨hd1, rfl⟩ := hd
  intro p e s m args below meth c H locs cells slots R lsA hv
  refine lv_istore (i := 8) hv.1.1 hv.1.2.1 hd1 (LH_has hv.2.2.2.2.2) (LH_len hv.2.2.2.2.2 8 (by simp only [List.length_cons]; omega)) rfl (fun lsB hB => ?_)
  exact k p e s m args below meth c H locs cells slots R lsB ⟨hv.1, hv.2.1, hv.2.2.1, hv.2.2.2.1, hv.2.2.2.2.1, LH_st (i := 8) (v := .int x) hv.2.2.2.2.2 (okc_p (a := a7) rfl hc) hB⟩
theorem v_ast8 {x : Nat} {a0 a1 a2 a3 a4 a5 a6 a7 b : Option Value} {t : List (Option Value)} (hd : DC (mCc mt) pc (.astore 8) 2 pc2) (hc : okc a7 = true) (k : V l g mt dp Z bc bs pc2 (a0 :: a1 :: a2 :: a3 :: a4 :: a5 :: a6 :: a7 :: some (.ref x) :: t) st S I X) : V l g mt dp Z bc bs pc (a0 :: a1 :: a2 :: a3 :: a4 :: a5 :: a6 :: a7 :: b :: t) (.ref x :: st) S I X := by
  obtain ⟨hd1, rfl⟩ := hd
  intro p e s m args below meth c H locs cells slots R lsA hv
  refine lv_astore (i := 8) hv.1.1 hv.1.2.1 hd1 (LH_has hv.2.2.2.2.2) (LH_len hv.2.2.2.2.2 8 (by simp only [List.length_cons]; omega)) rfl (fun lsB hB => ?_)
  exact k p e s m args below meth c H locs cells slots R lsB ⟨hv.1, hv.2.1, hv.2.2.1, hv.2.2.2.1, hv.2.2.2.2.1, LH_st (i := 8) (v := .ref x) hv.2.2.2.2.2 (okc_p (a := a7) rfl hc) hB⟩
theorem v_fst8 {x : UInt32} {a0 a1 a2 a3 a4 a5 a6 a7 b : Option Value} {t : List (Option Value)} (hd : DC (mCc mt) pc (.fstore 8) 2 pc2) (hc : okc a7 = true) (k : V l g mt dp Z bc bs pc2 (a0 :: a1 :: a2 :: a3 :: a4 :: a5 :: a6 :: a7 :: some (.float x) :: t) st S I X) : V l g mt dp Z bc bs pc (a0 :: a1 :: a2 :: a3 :: a4 :: a5 :: a6 :: a7 :: b :: t) (.float x :: st) S I X := by
  obtain ⟨hd1, rfl⟩ := hd
  intro p e s m args below meth c H locs cells slots R lsA hv
  refine lv_fstore (i := 8) hv.1.1 hv.1.2.1 hd1 (LH_has hv.2.2.2.2.2) (LH_len hv.2.2.2.2.2 8 (by simp only [List.length_cons]; omega)) rfl (fun lsB hB => ?_)
  exact k p e s m args below meth c H locs cells slots R lsB ⟨hv.1, hv.2.1, hv.2.2.1, hv.2.2.2.1, hv.2.2.2.2.1, LH_st (i := 8) (v := .float x) hv.2.2.2.2.2 (okc_p (a := a7) rfl hc) hB⟩
theorem v_lst8 {x : Int64} {a0 a1 a2 a3 a4 a5 a6 a7 b b2 : Option Value} {t : List (Option Value)} (hd : DC (mCc mt) pc (.lstore 8) 2 pc2) (hc : okc a7 = true) (k : V l g mt dp Z bc bs pc2 (a0 :: a1 :: a2 :: a3 :: a4 :: a5 :: a6 :: a7 :: some (.long x) :: none :: t) st S I X) : V l g mt dp Z bc bs pc (a0 :: a1 :: a2 :: a3 :: a4 :: a5 :: a6 :: a7 :: b :: b2 :: t) (.long x :: st) S I X := by
  obtain ⟨hd1, rfl⟩ := hd
  intro p e s m args below meth c H locs cells slots R lsA hv
  refine lv_lstore (i := 8) hv.1.1 hv.1.2.1 hd1 (LH_has hv.2.2.2.2.2) (LH_len hv.2.2.2.2.2 9 (by simp only [List.length_cons]; omega)) rfl (fun lsB hB => ?_)
  exact k p e s m args below meth c H locs cells slots R lsB ⟨hv.1, hv.2.1, hv.2.2.1, hv.2.2.2.1, hv.2.2.2.2.1, LH_st2 (i := 8) (v := .long x) hv.2.2.2.2.2 (okc_p (a := a7) rfl hc) hB⟩
theorem v_iinc8 {z n : Int} {a0 a1 a2 a3 a4 a5 a6 a7 : Option Value} {t : List (Option Value)} (hd : DC (mCc mt) pc (.iinc 8 n) 3 pc2) (hc : okc a7 = true) (k : V l g mt dp Z bc bs pc2 (a0 :: a1 :: a2 :: a3 :: a4 :: a5 :: a6 :: a7 :: some (.int (ii (z + n))) :: t) st S I X) : V l g mt dp Z bc bs pc (a0 :: a1 :: a2 :: a3 :: a4 :: a5 :: a6 :: a7 :: some (.int (ii z)) :: t) st S I X := by
  obtain ⟨hd1, rfl⟩ := hd
  intro p e s m args below meth c H locs cells slots R lsA hv
  obtain ⟨kx, hk⟩ := List.getElem?_of_mem (lvl_mem (g := g) (a0 :: a1 :: a2 :: a3 :: a4 :: a5 :: a6 :: a7 :: some (.int (ii z)) :: t) 0 8 (.int (ii z)) rfl)
  refine lv_iinc (i := 8) (k := kx) hv.1.1 hv.1.2.1 hd1 (LH_has hv.2.2.2.2.2) hk (ii_add z n).symm (LH_len hv.2.2.2.2.2 8 (by simp only [List.length_cons]; omega)) rfl (fun lsB hB => ?_)
  exact k p e s m args below meth c H locs cells slots R lsB ⟨hv.1, hv.2.1, hv.2.2.1, hv.2.2.2.1, hv.2.2.2.2.1, LH_st (i := 8) (v := .int (ii (z + n))) hv.2.2.2.2.2 (okc_p (a := a7) rfl hc) hB⟩
theorem v_ist9 {x : Int32} {a0 a1 a2 a3 a4 a5 a6 a7 a8 b : Option Value} {t : List (Option Value)} (hd : DC (mCc mt) pc (.istore 9) 2 pc2) (hc : okc a8 = true) (k : V l g mt dp Z bc bs pc2 (a0 :: a1 :: a2 :: a3 :: a4 :: a5 :: a6 :: a7 :: a8 :: some (.int x) :: t) st S I X) : V l g mt dp Z bc bs pc (a0 :: a1 :: a2 :: a3 :: a4 :: a5 :: a6 :: a7 :: a8 :: b :: t) (.int x :: st) S I X := by
  obtain ⟨hd1, rfl⟩ := hd
  intro p e s m args below meth c H locs cells slots R lsA hv
  refine lv_istore (i := 9) hv.1.1 hv.1.2.1 hd1 (LH_has hv.2.2.2.2.2) (LH_len hv.2.2.2.2.2 9 (by simp only [List.length_cons]; omega)) rfl (fun lsB hB => ?_)
  exact k p e s m args below meth c H locs cells slots R lsB ⟨hv.1, hv.2.1, hv.2.2.1, hv.2.2.2.1, hv.2.2.2.2.1, LH_st (i := 9) (v := .int x) hv.2.2.2.2.2 (okc_p (a := a8) rfl hc) hB⟩
theorem v_ast9 {x : Nat} {a0 a1 a2 a3 a4 a5 a6 a7 a8 b : Option Value} {t : List (Option Value)} (hd : DC (mCc mt) pc (.astore 9) 2 pc2) (hc : okc a8 = true) (k : V l g mt dp Z bc bs pc2 (a0 :: a1 :: a2 :: a3 :: a4 :: a5 :: a6 :: a7 :: a8 :: some (.ref x) :: t) st S I X) : V l g mt dp Z bc bs pc (a0 :: a1 :: a2 :: a3 :: a4 :: a5 :: a6 :: a7 :: a8 :: b :: t) (.ref x :: st) S I X := by
  obtain ⟨hd1, rfl⟩ := hd
  intro p e s m args below meth c H locs cells slots R lsA hv
  refine lv_astore (i := 9) hv.1.1 hv.1.2.1 hd1 (LH_has hv.2.2.2.2.2) (LH_len hv.2.2.2.2.2 9 (by simp only [List.length_cons]; omega)) rfl (fun lsB hB => ?_)
  exact k p e s m args below meth c H locs cells slots R lsB ⟨hv.1, hv.2.1, hv.2.2.1, hv.2.2.2.1, hv.2.2.2.2.1, LH_st (i := 9) (v := .ref x) hv.2.2.2.2.2 (okc_p (a := a8) rfl hc) hB⟩
theorem v_fst9 {x : UInt32} {a0 a1 a2 a3 a4 a5 a6 a7 a8 b : Option Value} {t : List (Option Value)} (hd : DC (mCc mt) pc (.fstore 9) 2 pc2) (hc : okc a8 = true) (k : V l g mt dp Z bc bs pc2 (a0 :: a1 :: a2 :: a3 :: a4 :: a5 :: a6 :: a7 :: a8 :: some (.float x) :: t) st S I X) : V l g mt dp Z bc bs pc (a0 :: a1 :: a2 :: a3 :: a4 :: a5 :: a6 :: a7 :: a8 :: b :: t) (.float x :: st) S I X := by
  obtain ⟨hd1, rfl⟩ := hd
  intro p e s m args below meth c H locs cells slots R lsA hv
  refine lv_fstore (i := 9) hv.1.1 hv.1.2.1 hd1 (LH_has hv.2.2.2.2.2) (LH_len hv.2.2.2.2.2 9 (by simp only [List.length_cons]; omega)) rfl (fun lsB hB => ?_)
  exact k p e s m args below meth c H locs cells slots R lsB ⟨hv.1, hv.2.1, hv.2.2.1, hv.2.2.2.1, hv.2.2.2.2.1, LH_st (i := 9) (v := .float x) hv.2.2.2.2.2 (okc_p (a := a8) rfl hc) hB⟩
theorem v_lst9 {x : Int64} {a0 a1 a2 a3 a4 a5 a6 a7 a8 b b2 : Option Value} {t : List (Option Value)} (hd : DC (mCc mt) pc (.lstore 9) 2 pc2) (hc : okc a8 = true) (k : V l g mt dp Z bc bs pc2 (a0 :: a1 :: a2 :: a3 :: a4 :: a5 :: a6 :: a7 :: a8 :: some (.long x) :: none :: t) st S I X) : V l g mt dp Z bc bs pc (a0 :: a1 :: a2 :: a3 :: a4 :: a5 :: a6 :: a7 :: a8 :: b :: b2 :: t) (.long x :: st) S I X := by
  obtain ⟨hd1, rfl⟩ := hd
  intro p e s m args below meth c H locs cells slots R lsA hv
  refine lv_lstore (i := 9) hv.1.1 hv.1.2.1 hd1 (LH_has hv.2.2.2.2.2) (LH_len hv.2.2.2.2.2 10 (by simp only [List.length_cons]; omega)) rfl (fun lsB hB => ?_)
  exact k p e s m args below meth c H locs cells slots R lsB ⟨hv.1, hv.2.1, hv.2.2.1, hv.2.2.2.1, hv.2.2.2.2.1, LH_st2 (i := 9) (v := .long x) hv.2.2.2.2.2 (okc_p (a := a8) rfl hc) hB⟩
theorem v_iinc9 {z n : Int} {a0 a1 a2 a3 a4 a5 a6 a7 a8 : Option Value} {t : List (Option Value)} (hd : DC (mCc mt) pc (.iinc 9 n) 3 pc2) (hc : okc a8 = true) (k : V l g mt dp Z bc bs pc2 (a0 :: a1 :: a2 :: a3 :: a4 :: a5 :: a6 :: a7 :: a8 :: some (.int (ii (z + n))) :: t) st S I X) : V l g mt dp Z bc bs pc (a0 :: a1 :: a2 :: a3 :: a4 :: a5 :: a6 :: a7 :: a8 :: some (.int (ii z)) :: t) st S I X := by
  obtain ⟨hd1, rfl⟩ := hd
  intro p e s m args below meth c H locs cells slots R lsA hv
  obtain ⟨kx, hk⟩ := List.getElem?_of_mem (lvl_mem (g := g) (a0 :: a1 :: a2 :: a3 :: a4 :: a5 :: a6 :: a7 :: a8 :: some (.int (ii z)) :: t) 0 9 (.int (ii z)) rfl)
  refine lv_iinc (i := 9) (k := kx) hv.1.1 hv.1.2.1 hd1 (LH_has hv.2.2.2.2.2) hk (ii_add z n).symm (LH_len hv.2.2.2.2.2 9 (by simp only [List.length_cons]; omega)) rfl (fun lsB hB => ?_)
  exact k p e s m args below meth c H locs cells slots R lsB ⟨hv.1, hv.2.1, hv.2.2.1, hv.2.2.2.1, hv.2.2.2.2.1, LH_st (i := 9) (v := .int (ii (z + n))) hv.2.2.2.2.2 (okc_p (a := a8) rfl hc) hB⟩
theorem v_ist10 {x : Int32} {a0 a1 a2 a3 a4 a5 a6 a7 a8 a9 b : Option Value} {t : List (Option Value)} (hd : DC (mCc mt) pc (.istore 10) 2 pc2) (hc : okc a9 = true) (k : V l g mt dp Z bc bs pc2 (a0 :: a1 :: a2 :: a3 :: a4 :: a5 :: a6 :: a7 :: a8 :: a9 :: some (.int x) :: t) st S I X) : V l g mt dp Z bc bs pc (a0 :: a1 :: a2 :: a3 :: a4 :: a5 :: a6 :: a7 :: a8 :: a9 :: b :: t) (.int x :: st) S I X := by
  obtain ⟨hd1, rfl⟩ := hd
  intro p e s m args below meth c H locs cells slots R lsA hv
  refine lv_istore (i := 10) hv.1.1 hv.1.2.1 hd1 (LH_has hv.2.2.2.2.2) (LH_len hv.2.2.2.2.2 10 (by simp only [List.length_cons]; omega)) rfl (fun lsB hB => ?_)
  exact k p e s m args below meth c H locs cells slots R lsB ⟨hv.1, hv.2.1, hv.2.2.1, hv.2.2.2.1, hv.2.2.2.2.1, LH_st (i := 10) (v := .int x) hv.2.2.2.2.2 (okc_p (a := a9) rfl hc) hB⟩
theorem v_ast10 {x : Nat} {a0 a1 a2 a3 a4 a5 a6 a7 a8 a9 b : Option Value} {t : List (Option Value)} (hd : DC (mCc mt) pc (.astore 10) 2 pc2) (hc : okc a9 = true) (k : V l g mt dp Z bc bs pc2 (a0 :: a1 :: a2 :: a3 :: a4 :: a5 :: a6 :: a7 :: a8 :: a9 :: some (.ref x) :: t) st S I X) : V l g mt dp Z bc bs pc (a0 :: a1 :: a2 :: a3 :: a4 :: a5 :: a6 :: a7 :: a8 :: a9 :: b :: t) (.ref x :: st) S I X := by
  obtain ⟨hd1, rfl⟩ := hd
  intro p e s m args below meth c H locs cells slots R lsA hv
  refine lv_astore (i := 10) hv.1.1 hv.1.2.1 hd1 (LH_has hv.2.2.2.2.2) (LH_len hv.2.2.2.2.2 10 (by simp only [List.length_cons]; omega)) rfl (fun lsB hB => ?_)
  exact k p e s m args below meth c H locs cells slots R lsB ⟨hv.1, hv.2.1, hv.2.2.1, hv.2.2.2.1, hv.2.2.2.2.1, LH_st (i := 10) (v := .ref x) hv.2.2.2.2.2 (okc_p (a := a9) rfl hc) hB⟩
theorem v_fst10 {x : UInt32} {a0 a1 a2 a3 a4 a5 a6 a7 a8 a9 b : Option Value} {t : List (Option Value)} (hd : DC (mCc mt) pc (.fstore 10) 2 pc2) (hc : okc a9 = true) (k : V l g mt dp Z bc bs pc2 (a0 :: a1 :: a2 :: a3 :: a4 :: a5 :: a6 :: a7 :: a8 :: a9 :: some (.float x) :: t) st S I X) : V l g mt dp Z bc bs pc (a0 :: a1 :: a2 :: a3 :: a4 :: a5 :: a6 :: a7 :: a8 :: a9 :: b :: t) (.float x :: st) S I X := by
  obtain ⟨hd1, rfl⟩ := hd
  intro p e s m args below meth c H locs cells slots R lsA hv
  refine lv_fstore (i := 10) hv.1.1 hv.1.2.1 hd1 (LH_has hv.2.2.2.2.2) (LH_len hv.2.2.2.2.2 10 (by simp only [List.length_cons]; omega)) rfl (fun lsB hB => ?_)
  exact k p e s m args below meth c H locs cells slots R lsB ⟨hv.1, hv.2.1, hv.2.2.1, hv.2.2.2.1, hv.2.2.2.2.1, LH_st (i := 10) (v := .float x) hv.2.2.2.2.2 (okc_p (a := a9) rfl hc) hB⟩
theorem v_lst10 {x : Int64} {a0 a1 a2 a3 a4 a5 a6 a7 a8 a9 b b2 : Option Value} {t : List (Option Value)} (hd : DC (mCc mt) pc (.lstore 10) 2 pc2) (hc : okc a9 = true) (k : V l g mt dp Z bc bs pc2 (a0 :: a1 :: a2 :: a3 :: a4 :: a5 :: a6 :: a7 :: a8 :: a9 :: some (.long x) :: none :: t) st S I X) : V l g mt dp Z bc bs pc (a0 :: a1 :: a2 :: a3 :: a4 :: a5 :: a6 :: a7 :: a8 :: a9 :: b :: b2 :: t) (.long x :: st) S I X := by
  obtain ⟨hd1, rfl⟩ := hd
  intro p e s m args below meth c H locs cells slots R lsA hv
  refine lv_lstore (i := 10) hv.1.1 hv.1.2.1 hd1 (LH_has hv.2.2.2.2.2) (LH_len hv.2.2.2.2.2 11 (by simp only [List.length_cons]; omega)) rfl (fun lsB hB => ?_)
  exact k p e s m args below meth c H locs cells slots R lsB ⟨hv.1, hv.2.1, hv.2.2.1, hv.2.2.2.1, hv.2.2.2.2.1, LH_st2 (i := 10) (v := .long x) hv.2.2.2.2.2 (okc_p (a := a9) rfl hc) hB⟩
theorem v_iinc10 {z n : Int} {a0 a1 a2 a3 a4 a5 a6 a7 a8 a9 : Option Value} {t : List (Option Value)} (hd : DC (mCc mt) pc (.iinc 10 n) 3 pc2) (hc : okc a9 = true) (k : V l g mt dp Z bc bs pc2 (a0 :: a1 :: a2 :: a3 :: a4 :: a5 :: a6 :: a7 :: a8 :: a9 :: some (.int (ii (z + n))) :: t) st S I X) : V l g mt dp Z bc bs pc (a0 :: a1 :: a2 :: a3 :: a4 :: a5 :: a6 :: a7 :: a8 :: a9 :: some (.int (ii z)) :: t) st S I X := by
  obtain ⟨hd1, rfl⟩ := hd
  intro p e s m args below meth c H locs cells slots R lsA hv
  obtain ⟨kx, hk⟩ := List.getElem?_of_mem (lvl_mem (g := g) (a0 :: a1 :: a2 :: a3 :: a4 :: a5 :: a6 :: a7 :: a8 :: a9 :: some (.int (ii z)) :: t) 0 10 (.int (ii z)) rfl)
  refine lv_iinc (i := 10) (k := kx) hv.1.1 hv.1.2.1 hd1 (LH_has hv.2.2.2.2.2) hk (ii_add z n).symm (LH_len hv.2.2.2.2.2 10 (by simp only [List.length_cons]; omega)) rfl (fun lsB hB => ?_)
  exact k p e s m args below meth c H locs cells slots R lsB ⟨hv.1, hv.2.1, hv.2.2.1, hv.2.2.2.1, hv.2.2.2.2.1, LH_st (i := 10) (v := .int (ii (z + n))) hv.2.2.2.2.2 (okc_p (a := a9) rfl hc) hB⟩
theorem v_ist11 {x : Int32} {a0 a1 a2 a3 a4 a5 a6 a7 a8 a9 a10 b : Option Value} {t : List (Option Value)} (hd : DC (mCc mt) pc (.istore 11) 2 pc2) (hc : okc a10 = true) (k : V l g mt dp Z bc bs pc2 (a0 :: a1 :: a2 :: a3 :: a4 :: a5 :: a6 :: a7 :: a8 :: a9 :: a10 :: some (.int x) :: t) st S I X) : V l g mt dp Z bc bs pc (a0 :: a1 :: a2 :: a3 :: a4 :: a5 :: a6 :: a7 :: a8 :: a9 :: a10 :: b :: t) (.int x :: st) S I X := by
  obtain ⟨hd1, rfl⟩ := hd
  intro p e s m args below meth c H locs cells slots R lsA hv
  refine lv_istore (i := 11) hv.1.1 hv.1.2.1 hd1 (LH_has hv.2.2.2.2.2) (LH_len hv.2.2.2.2.2 11 (by simp only [List.length_cons]; omega)) rfl (fun lsB hB => ?_)
  exact k p e s m args below meth c H locs cells slots R lsB ⟨hv.1, hv.2.1, hv.2.2.1, hv.2.2.2.1, hv.2.2.2.2.1, LH_st (i := 11) (v := .int x) hv.2.2.2.2.2 (okc_p (a := a10) rfl hc) hB⟩
theorem v_ast11 {x : Nat} {a0 a1 a2 a3 a4 a5 a6 a7 a8 a9 a10 b : Option Value} {t : List (Option Value)} (hd : DC (mCc mt) pc (.astore 11) 2 pc2) (hc : okc a10 = true) (k : V l g mt dp Z bc bs pc2 (a0 :: a1 :: a2 :: a3 :: a4 :: a5 :: a6 :: a7 :: a8 :: a9 :: a10 :: some (.ref x) :: t) st S I X) : V l g mt dp Z bc bs pc (a0 :: a1 :: a2 :: a3 :: a4 :: a5 :: a6 :: a7 :: a8 :: a9 :: a10 :: b :: t) (.ref x :: st) S I X := by
  obtain ⟨hd1, rfl⟩ := hd
  intro p e s m args below meth c H locs cells slots R lsA hv
  refine lv_astore (i := 11) hv.1.1 hv.1.2.1 hd1 (LH_has hv.2.2.2.2.2) (LH_len hv.2.2.2.2.2 11 (by simp only [List.length_cons]; omega)) rfl (fun lsB hB => ?_)
  exact k p e s m args below meth c H locs cells slots R lsB ⟨hv.1, hv.2.1, hv.2.2.1, hv.2.2.2.1, hv.2.2.2.2.1, LH_st (i := 11) (v := .ref x) hv.2.2.2.2.2 (okc_p (a := a10) rfl hc) hB⟩
theorem v_fst11 {x : UInt32} {a0 a1 a2 a3 a4 a5 a6 a7 a8 a9 a10 b : Option Value} {t : List (Option Value)} (hd : DC (mCc mt) pc (.fstore 11) 2 pc2) (hc : okc a10 = true) (k : V l g mt dp Z bc bs pc2 (a0 :: a1 :: a2 :: a3 :: a4 :: a5 :: a6 :: a7 :: a8 :: a9 :: a10 :: some (.float x) :: t) st S I X) : V l g mt dp Z bc bs pc (a0 :: a1 :: a2 :: a3 :: a4 :: a5 :: a6 :: a7 :: a8 :: a9 :: a10 :: b :: t) (.float x :: st) S I X := by
  obtain ⟨hd1, rfl⟩ := hd
  intro p e s m args below meth c H locs cells slots R lsA hv
  refine lv_fstore (i := 11) hv.1.1 hv.1.2.1 hd1 (LH_has hv.2.2.2.2.2) (LH_len hv.2.2.2.2.2 11 (by simp only [List.length_cons]; omega)) rfl (fun lsB hB => ?_)
  exact k p e s m args below meth c H locs cells slots R lsB ⟨hv.1, hv.2.1, hv.2.2.1, hv.2.2.2.1, hv.2.2.2.2.1, LH_st (i := 11) (v := .float x) hv.2.2.2.2.2 (okc_p (a := a10) rfl hc) hB⟩
theorem v_lst11 {x : Int64} {a0 a1 a2 a3 a4 a5 a6 a7 a8 a9 a10 b b2 : Option Value} {t : List (Option Value)} (hd : DC (mCc mt) pc (.lstore 11) 2 pc2) (hc : okc a10 = true) (k : V l g mt dp Z bc bs pc2 (a0 :: a1 :: a2 :: a3 :: a4 :: a5 :: a6 :: a7 :: a8 :: a9 :: a10 :: some (.long x) :: none :: t) st S I X) : V l g mt dp Z bc bs pc (a0 :: a1 :: a2 :: a3 :: a4 :: a5 :: a6 :: a7 :: a8 :: a9 :: a10 :: b :: b2 :: t) (.long x :: st) S I X := by
  obtain ⟨hd1, rfl⟩ := hd
  intro p e s m args below meth c H locs cells slots R lsA hv
  refine lv_lstore (i := 11) hv.1.1 hv.1.2.1 hd1 (LH_has hv.2.2.2.2.2) (LH_len hv.2.2.2.2.2 12 (by simp only [List.length_cons]; omega)) rfl (fun lsB hB => ?_)
  exact k p e s m args below meth c H locs cells slots R lsB ⟨hv.1, hv.2.1, hv.2.2.1, hv.2.2.2.1, hv.2.2.2.2.1, LH_st2 (i := 11) (v := .long x) hv.2.2.2.2.2 (okc_p (a := a10) rfl hc) hB⟩
theorem v_iinc11 {z n : Int} {a0 a1 a2 a3 a4 a5 a6 a7 a8 a9 a10 : Option Value} {t : List (Option Value)} (hd : DC (mCc mt) pc (.iinc 11 n) 3 pc2) (hc : okc a10 = true) (k : V l g mt dp Z bc bs pc2 (a0 :: a1 :: a2 :: a3 :: a4 :: a5 :: a6 :: a7 :: a8 :: a9 :: a10 :: some (.int (ii (z + n))) :: t) st S I X) : V l g mt dp Z bc bs pc (a0 :: a1 :: a2 :: a3 :: a4 :: a5 :: a6 :: a7 :: a8 :: a9 :: a10 :: some (.int (ii z)) :: t) st S I X := by
  obtain ⟨hd1, rfl⟩ := hd
  intro p e s m args below meth c H locs cells slots R lsA hv
  obtain ⟨kx, hk⟩ := List.getElem?_of_mem (lvl_mem (g := g) (a0 :: a1 :: a2 :: a3 :: a4 :: a5 :: a6 :: a7 :: a8 :: a9 :: a10 :: some (.int (ii z)) :: t) 0 11 (.int (ii z)) rfl)
  refine lv_iinc (i := 11) (k := kx) hv.1.1 hv.1.2.1 hd1 (LH_has hv.2.2.2.2.2) hk (ii_add z n).symm (LH_len hv.2.2.2.2.2 11 (by simp only [List.length_cons]; omega)) rfl (fun lsB hB => ?_)
  exact k p e s m args below meth c H locs cells slots R lsB ⟨hv.1, hv.2.1, hv.2.2.1, hv.2.2.2.1, hv.2.2.2.2.1, LH_st (i := 11) (v := .int (ii (z + n))) hv.2.2.2.2.2 (okc_p (a := a10) rfl hc) hB⟩
theorem v_ist12 {x : Int32} {a0 a1 a2 a3 a4 a5 a6 a7 a8 a9 a10 a11 b : Option Value} {t : List (Option Value)} (hd : DC (mCc mt) pc (.istore 12) 2 pc2) (hc : okc a11 = true) (k : V l g mt dp Z bc bs pc2 (a0 :: a1 :: a2 :: a3 :: a4 :: a5 :: a6 :: a7 :: a8 :: a9 :: a10 :: a11 :: some (.int x) :: t) st S I X) : V l g mt dp Z bc bs pc (a0 :: a1 :: a2 :: a3 :: a4 :: a5 :: a6 :: a7 :: a8 :: a9 :: a10 :: a11 :: b :: t) (.int x :: st) S I X := by
  obtain ⟨hd1, rfl⟩ := hd
  intro p e s m args below meth c H locs cells slots R lsA hv
  refine lv_istore (i := 12) hv.1.1 hv.1.2.1 hd1 (LH_has hv.2.2.2.2.2) (LH_len hv.2.2.2.2.2 12 (by simp only [List.length_cons]; omega)) rfl (fun lsB hB => ?_)
  exact k p e s m args below meth c H locs cells slots R lsB ⟨hv.1, hv.2.1, hv.2.2.1, hv.2.2.2.1, hv.2.2.2.2.1, LH_st (i := 12) (v := .int x) hv.2.2.2.2.2 (okc_p (a := a11) rfl hc) hB⟩
theorem v_ast12 {x : Nat} {a0 a1 a2 a3 a4 a5 a6 a7 a8 a9 a10 a11 b : Option Value} {t : List (Option Value)} (hd : DC (mCc mt) pc (.astore 12) 2 pc2) (hc : okc a11 = true) (k : V l g mt dp Z bc bs pc2 (a0 :: a1 :: a2 :: a3 :: a4 :: a5 :: a6 :: a7 :: a8 :: a9 :: a10 :: a11 :: some (.ref x) :: t) st S I X) : V l g mt dp Z bc bs pc (a0 :: a1 :: a2 :: a3 :: a4 :: a5 :: a6 :: a7 :: a8 :: a9 :: a10 :: a11 :: b :: t) (.ref x :: st) S I X := by
  obtain ⟨hd1, rfl⟩ := hd
  intro p e s m args below meth c H locs cells slots R lsA hv
  refine lv_astore (i := 12) hv.1.1 hv.1.2.1 hd1 (LH_has hv.2.2.2.2.2) (LH_len hv.2.2.2.2.2 12 (by simp only [List.length_cons]; omega)) rfl (fun lsB hB => ?_)
  exact k p e s m args below meth c H locs cells slots R lsB ⟨hv.1, hv.2.1, hv.2.2.1, hv.2.2.2.1, hv.2.2.2.2.1, LH_st (i := 12) (v := .ref x) hv.2.2.2.2.2 (okc_p (a := a11) rfl hc) hB⟩
theorem v_fst12 {x : UInt32} {a0 a1 a2 a3 a4 a5 a6 a7 a8 a9 a10 a11 b : Option Value} {t : List (Option Value)} (hd : DC (mCc mt) pc (.fstore 12) 2 pc2) (hc : okc a11 = true) (k : V l g mt dp Z bc bs pc2 (a0 :: a1 :: a2 :: a3 :: a4 :: a5 :: a6 :: a7 :: a8 :: a9 :: a10 :: a11 :: some (.float x) :: t) st S I X) : V l g mt dp Z bc bs pc (a0 :: a1 :: a2 :: a3 :: a4 :: a5 :: a6 :: a7 :: a8 :: a9 :: a10 :: a11 :: b :: t) (.float x :: st) S I X := by
  obtain ⟨hd1, rfl⟩ := hd
  intro p e s m args below meth c H locs cells slots R lsA hv
  refine lv_fstore (i := 12) hv.1.1 hv.1.2.1 hd1 (LH_has hv.2.2.2.2.2) (LH_len hv.2.2.2.2.2 12 (by simp only [List.length_cons]; omega)) rfl (fun lsB hB => ?_)
  exact k p e s m args below meth c H locs cells slots R lsB ⟨hv.1, hv.2.1, hv.2.2.1, hv.2.2.2.1, hv.2.2.2.2.1, LH_st (i := 12) (v := .float x) hv.2.2.2.2.2 (okc_p (a := a11) rfl hc) hB⟩
theorem v_lst12 {x : Int64} {a0 a1 a2 a3 a4 a5 a6 a7 a8 a9 a10 a11 b b2 : Option Value} {t : List (Option Value)} (hd : DC (mCc mt) pc (.lstore 12) 2 pc2) (hc : okc a11 = true) (k : V l g mt dp Z bc bs pc2 (a0 :: a1 :: a2 :: a3 :: a4 :: a5 :: a6 :: a7 :: a8 :: a9 :: a10 :: a11 :: some (.long x) :: none :: t) st S I X) : V l g mt dp Z bc bs pc (a0 :: a1 :: a2 :: a3 :: a4 :: a5 :: a6 :: a7 :: a8 :: a9 :: a10 :: a11 :: b :: b2 :: t) (.long x :: st) S I X := by
  obtain ⟨hd1, rfl⟩ := hd
  intro p e s m args below meth c H locs cells slots R lsA hv
  refine lv_lstore (i := 12) hv.1.1 hv.1.2.1 hd1 (LH_has hv.2.2.2.2.2) (LH_len hv.2.2.2.2.2 13 (by simp only [List.length_cons]; omega)) rfl (fun lsB hB => ?_)
  exact k p e s m args below meth c H locs cells slots R lsB ⟨hv.1, hv.2.1, hv.2.2.1, hv.2.2.2.1, hv.2.2.2.2.1, LH_st2 (i := 12) (v := .long x) hv.2.2.2.2.2 (okc_p (a := a11) rfl hc) hB⟩
theorem v_iinc12 {z n : Int} {a0 a1 a2 a3 a4 a5 a6 a7 a8 a9 a10 a11 : Option Value} {t : List (Option Value)} (hd : DC (mCc mt) pc (.iinc 12 n) 3 pc2) (hc : okc a11 = true) (k : V l g mt dp Z bc bs pc2 (a0 :: a1 :: a2 :: a3 :: a4 :: a5 :: a6 :: a7 :: a8 :: a9 :: a10 :: a11 :: some (.int (ii (z + n))) :: t) st S I X) : V l g mt dp Z bc bs pc (a0 :: a1 :: a2 :: a3 :: a4 :: a5 :: a6 :: a7 :: a8 :: a9 :: a10 :: a11 :: some (.int (ii z)) :: t) st S I X := by
  obtain ⟨hd1, rfl⟩ := hd
  intro p e s m args below meth c H locs cells slots R lsA hv
  obtain ⟨kx, hk⟩ := List.getElem?_of_mem (lvl_mem (g := g) (a0 :: a1 :: a2 :: a3 :: a4 :: a5 :: a6 :: a7 :: a8 :: a9 :: a10 :: a11 :: some (.int (ii z)) :: t) 0 12 (.int (ii z)) rfl)
  refine lv_iinc (i := 12) (k := kx) hv.1.1 hv.1.2.1 hd1 (LH_has hv.2.2.2.2.2) hk (ii_add z n).symm (LH_len hv.2.2.2.2.2 12 (by simp only [List.length_cons]; omega)) rfl (fun lsB hB => ?_)
  exact k p e s m args below meth c H locs cells slots R lsB ⟨hv.1, hv.2.1, hv.2.2.1, hv.2.2.2.1, hv.2.2.2.2.1, LH_st (i := 12) (v := .int (ii (z + n))) hv.2.2.2.2.2 (okc_p (a := a11) rfl hc) hB⟩
theorem v_ist13 {x : Int32} {a0 a1 a2 a3 a4 a5 a6 a7 a8 a9 a10 a11 a12 b : Option Value} {t : List (Option Value)} (hd : DC (mCc mt) pc (.istore 13) 2 pc2) (hc : okc a12 = true) (k : V l g mt dp Z bc bs pc2 (a0 :: a1 :: a2 :: a3 :: a4 :: a5 :: a6 :: a7 :: a8 :: a9 :: a10 :: a11 :: a12 :: some (.int x) :: t) st S I X) : V l g mt dp Z bc bs pc (a0 :: a1 :: a2 :: a3 :: a4 :: a5 :: a6 :: a7 :: a8 :: a9 :: a10 :: a11 :: a12 :: b :: t) (.int x :: st) S I X := by
  obtain ⟨hd1, rfl⟩ := hd
  intro p e s m args below meth c H locs cells slots R lsA hv
  refine lv_istore (i := 13) hv.1.1 hv.1.2.1 hd1 (LH_has hv.2.2.2.2.2) (LH_len hv.2.2.2.2.2 13 (by simp only [List.length_cons]; omega)) rfl (fun lsB hB => ?_)
  exact k p e s m args below meth c H locs cells slots R lsB ⟨hv.1, hv.2.1, hv.2.2.1, hv.2.2.2.1, hv.2.2.2.2.1, LH_st (i := 13) (v := .int x) hv.2.2.2.2.2 (okc_p (a := a12) rfl hc) hB⟩
theorem v_ast13 {x : Nat} {a0 a1 a2 a3 a4 a5 a6 a7 a8 a9 a10 a11 a12 b : Option Value} {t : List (Option Value)} (hd : DC (mCc mt) pc (.astore 13) 2 pc2) (hc : okc a12 = true) (k : V l g mt dp Z bc bs pc2 (a0 :: a1 :: a2 :: a3 :: a4 :: a5 :: a6 :: a7 :: a8 :: a9 :: a10 :: a11 :: a12 :: some (.ref x) :: t) st S I X) : V l g mt dp Z bc bs pc (a0 :: a1 :: a2 :: a3 :: a4 :: a5 :: a6 :: a7 :: a8 :: a9 :: a10 :: a11 :: a12 :: b :: t) (.ref x :: st) S I X := by
  obtain ⟨hd1, rfl⟩ := hd
  intro p e s m args below meth c H locs cells slots R lsA hv
  refine lv_astore (i := 13) hv.1.1 hv.1.2.1 hd1 (LH_has hv.2.2.2.2.2) (LH_len hv.2.2.2.2.2 13 (by simp only [List.length_cons]; omega)) rfl (fun lsB hB => ?_)
  exact k p e s m args below meth c H locs cells slots R lsB ⟨hv.1, hv.2.1, hv.2.2.1, hv.2.2.2.1, hv.2.2.2.2.1, LH_st (i := 13) (v := .ref x) hv.2.2.2.2.2 (okc_p (a := a12) rfl hc) hB⟩
theorem v_fst13 {x : UInt32} {a0 a1 a2 a3 a4 a5 a6 a7 a8 a9 a10 a11 a12 b : Option Value} {t : List (Option Value)} (hd : DC (mCc mt) pc (.fstore 13) 2 pc2) (hc : okc a12 = true) (k : V l g mt dp Z bc bs pc2 (a0 :: a1 :: a2 :: a3 :: a4 :: a5 :: a6 :: a7 :: a8 :: a9 :: a10 :: a11 :: a12 :: some (.float x) :: t) st S I X) : V l g mt dp Z bc bs pc (a0 :: a1 :: a2 :: a3 :: a4 :: a5 :: a6 :: a7 :: a8 :: a9 :: a10 :: a11 :: a12 :: b :: t) (.float x :: st) S I X := by
  obtain ⟨hd1, rfl⟩ := hd
  intro p e s m args below meth c H locs cells slots R lsA hv
  refine lv_fstore (i := 13) hv.1.1 hv.1.2.1 hd1 (LH_has hv.2.2.2.2.2) (LH_len hv.2.2.2.2.2 13 (by simp only [List.length_cons]; omega)) rfl (fun lsB hB => ?_)
  exact k p e s m args below meth c H locs cells slots R lsB ⟨hv.1, hv.2.1, hv.2.2.1, hv.2.2.2.1, hv.2.2.2.2.1, LH_st (i := 13) (v := .float x) hv.2.2.2.2.2 (okc_p (a := a12) rfl hc) hB⟩
theorem v_lst13 {x : Int64} {a0 a1 a2 a3 a4 a5 a6 a7 a8 a9 a10 a11 a12 b b2 : Option Value} {t : List (Option Value)} (hd : DC (mCc mt) pc (.lstore 13) 2 pc2) (hc : okc a12 = true) (k : V l g mt dp Z bc bs pc2 (a0 :: a1 :: a2 :: a3 :: a4 :: a5 :: a6 :: a7 :: a8 :: a9 :: a10 :: a11 :: a12 :: some (.long x) :: none :: t) st S I X) : V l g mt dp Z bc bs pc (a0 :: a1 :: a2 :: a3 :: a4 :: a5 :: a6 :: a7 :: a8 :: a9 :: a10 :: a11 :: a12 :: b :: b2 :: t) (.long x :: st) S I X := by
  obtain ⟨hd1, rfl⟩ := hd
  intro p e s m args below meth c H locs cells slots R lsA hv
  refine lv_lstore (i := 13) hv.1.1 hv.1.2.1 hd1 (LH_has hv.2.2.2.2.2) (LH_len hv.2.2.2.2.2 14 (by simp only [List.length_cons]; omega)) rfl (fun lsB hB => ?_)
  exact k p e s m args below meth c H locs cells slots R lsB ⟨hv.1, hv.2.1, hv.2.2.1, hv.2.2.2.1, hv.2.2.2.2.1, LH_st2 (i := 13) (v := .long x) hv.2.2.2.2.2 (okc_p (a := a12) rfl hc) hB⟩
theorem v_iinc13 {z n : Int} {a0 a1 a2 a3 a4 a5 a6 a7 a8 a9 a10 a11 a12 : Option Value} {t : List (Option Value)} (hd : DC (mCc mt) pc (.iinc 13 n) 3 pc2) (hc : okc a12 = true) (k : V l g mt dp Z bc bs pc2 (a0 :: a1 :: a2 :: a3 :: a4 :: a5 :: a6 :: a7 :: a8 :: a9 :: a10 :: a11 :: a12 :: some (.int (ii (z + n))) :: t) st S I X) : V l g mt dp Z bc bs pc (a0 :: a1 :: a2 :: a3 :: a4 :: a5 :: a6 :: a7 :: a8 :: a9 :: a10 :: a11 :: a12 :: some (.int (ii z)) :: t) st S I X := by
  obtain ⟨hd1, rfl⟩ := hd
  intro p e s m args below meth c H locs cells slots R lsA hv
  obtain ⟨kx, hk⟩ := List.getElem?_of_mem (lvl_mem (g := g) (a0 :: a1 :: a2 :: a3 :: a4 :: a5 :: a6 :: a7 :: a8 :: a9 :: a10 :: a11 :: a12 :: some (.int (ii z)) :: t) 0 13 (.int (ii z)) rfl)
  refine lv_iinc (i := 13) (k := kx) hv.1.1 hv.1.2.1 hd1 (LH_has hv.2.2.2.2.2) hk (ii_add z n).symm (LH_len hv.2.2.2.2.2 13 (by simp only [List.length_cons]; omega)) rfl (fun lsB hB => ?_)
  exact k p e s m args below meth c H locs cells slots R lsB ⟨hv.1, hv.2.1, hv.2.2.1, hv.2.2.2.1, hv.2.2.2.2.1, LH_st (i := 13) (v := .int (ii (z + n))) hv.2.2.2.2.2 (okc_p (a := a12) rfl hc) hB⟩
theorem v_ist14 {x : Int32} {a0 a1 a2 a3 a4 a5 a6 a7 a8 a9 a10 a11 a12 a13 b : Option Value} {t : List (Option Value)} (hd : DC (mCc mt) pc (.istore 14) 2 pc2) (hc : okc a13 = true) (k : V l g mt dp Z bc bs pc2 (a0 :: a1 :: a2 :: a3 :: a4 :: a5 :: a6 :: a7 :: a8 :: a9 :: a10 :: a11 :: a12 :: a13 :: some (.int x) :: t) st S I X) : V l g mt dp Z bc bs pc (a0 :: a1 :: a2 :: a3 :: a4 :: a5 :: a6 :: a7 :: a8 :: a9 :: a10 :: a11 :: a12 :: a13 :: b :: t) (.int x :: st) S I X := by
  obtain ⟨hd1, rfl⟩ := hd
  intro p e s m args below meth c H locs cells slots R lsA hv
  refine lv_istore (i := 14) hv.1.1 hv.1.2.1 hd1 (LH_has hv.2.2.2.2.2) (LH_len hv.2.2.2.2.2 14 (by simp only [List.length_cons]; omega)) rfl (fun lsB hB => ?_)
  exact k p e s m args below meth c H locs cells slots R lsB ⟨hv.1, hv.2.1, hv.2.2.1, hv.2.2.2.1, hv.2.2.2.2.1, LH_st (i := 14) (v := .int x) hv.2.2.2.2.2 (okc_p (a := a13) rfl hc) hB⟩
theorem v_ast14 {x : Nat} {a0 a1 a2 a3 a4 a5 a6 a7 a8 a9 a10 a11 a12 a13 b : Option Value} {t : List (Option Value)} (hd : DC (mCc mt) pc (.astore 14) 2 pc2) (hc : okc a13 = true) (k : V l g mt dp Z bc bs pc2 (a0 :: a1 :: a2 :: a3 :: a4 :: a5 :: a6 :: a7 :: a8 :: a9 :: a10 :: a11 :: a12 :: a13 :: some (.ref x) :: t) st S I X) : V l g mt dp Z bc bs pc (a0 :: a1 :: a2 :: a3 :: a4 :: a5 :: a6 :: a7 :: a8 :: a9 :: a10 :: a11 :: a12 :: a13 :: b :: t) (.ref x :: st) S I X := by
  obtain ⟨hd1, rfl⟩ := hd
  intro p e s m args below meth c H locs cells slots R lsA hv
  refine lv_astore (i := 14) hv.1.1 hv.1.2.1 hd1 (LH_has hv.2.2.2.2.2) (LH_len hv.2.2.2.2.2 14 (by simp only [List.length_cons]; omega)) rfl (fun lsB hB => ?_)
  exact k p e s m args below meth c H locs cells slots R lsB ⟨hv.1, hv.2.1, hv.2.2.1, hv.2.2.2.1, hv.2.2.2.2.1, LH_st (i := 14) (v := .ref x) hv.2.2.2.2.2 (okc_p (a := a13) rfl hc) hB⟩
theorem v_fst14 {x : UInt32} {a0 a1 a2 a3 a4 a5 a6 a7 a8 a9 a10 a11 a12 a13 b : Option Value} {t : List (Option Value)} (hd : DC (mCc mt) pc (.fstore 14) 2 pc2) (hc : okc a13 = true) (k : V l g mt dp Z bc bs pc2 (a0 :: a1 :: a2 :: a3 :: a4 :: a5 :: a6 :: a7 :: a8 :: a9 :: a10 :: a11 :: a12 :: a13 :: some (.float x) :: t) st S I X) : V l g mt dp Z bc bs pc (a0 :: a1 :: a2 :: a3 :: a4 :: a5 :: a6 :: a7 :: a8 :: a9 :: a10 :: a11 :: a12 :: a13 :: b :: t) (.float x :: st) S I X := by
  obtain ⟨hd1, rfl⟩ := hd
  intro p e s m args below meth c H locs cells slots R lsA hv
  refine lv_fstore (i := 14) hv.1.1 hv.1.2.1 hd1 (LH_has hv.2.2.2.2.2) (LH_len hv.2.2.2.2.2 14 (by simp only [List.length_cons]; omega)) rfl (fun lsB hB => ?_)
  exact k p e s m args below meth c H locs cells slots R lsB ⟨hv.1, hv.2.1, hv.2.2.1, hv.2.2.2.1, hv.2.2.2.2.1, LH_st (i := 14) (v := .float x) hv.2.2.2.2.2 (okc_p (a := a13) rfl hc) hB⟩
theorem v_lst14 {x : Int64} {a0 a1 a2 a3 a4 a5 a6 a7 a8 a9 a10 a11 a12 a13 b b2 : Option Value} {t : List (Option Value)} (hd : DC (mCc mt) pc (.lstore 14) 2 pc2) (hc : okc a13 = true) (k : V l g mt dp Z bc bs pc2 (a0 :: a1 :: a2 :: a3 :: a4 :: a5 :: a6 :: a7 :: a8 :: a9 :: a10 :: a11 :: a12 :: a13 :: some (.long x) :: none :: t) st S I X) : V l g mt dp Z bc bs pc (a0 :: a1 :: a2 :: a3 :: a4 :: a5 :: a6 :: a7 :: a8 :: a9 :: a10 :: a11 :: a12 :: a13 :: b :: b2 :: t) (.long x :: st) S I X := by
  obtain ⟨hd1, rfl⟩ := hd
  intro p e s m args below meth c H locs cells slots R lsA hv
  refine lv_lstore (i := 14) hv.1.1 hv.1.2.1 hd1 (LH_has hv.2.2.2.2.2) (LH_len hv.2.2.2.2.2 15 (by simp only [List.length_cons]; omega)) rfl (fun lsB hB => ?_)
  exact k p e s m args below meth c H locs cells slots R lsB ⟨hv.1, hv.2.1, hv.2.2.1, hv.2.2.2.1, hv.2.2.2.2.1, LH_st2 (i := 14) (v := .long x) hv.2.2.2.2.2 (okc_p (a := a13) rfl hc) hB⟩
theorem v_iinc14 {z n : Int} {a0 a1 a2 a3 a4 a5 a6 a7 a8 a9 a10 a11 a12 a13 : Option Value} {t : List (Option Value)} (hd : DC (mCc mt) pc (.iinc 14 n) 3 pc2) (hc : okc a13 = true) (k : V l g mt dp Z bc bs pc2 (a0 :: a1 :: a2 :: a3 :: a4 :: a5 :: a6 :: a7 :: a8 :: a9 :: a10 :: a11 :: a12 :: a13 :: some (.int (ii (z + n))) :: t) st S I X) : V l g mt dp Z bc bs pc (a0 :: a1 :: a2 :: a3 :: a4 :: a5 :: a6 :: a7 :: a8 :: a9 :: a10 :: a11 :: a12 :: a13 :: some (.int (ii z)) :: t) st S I X := by
  obtain ⟨hd1, rfl⟩ := hd
  intro p e s m args below meth c H locs cells slots R lsA hv
  obtain ⟨kx, hk⟩ := List.getElem?_of_mem (lvl_mem (g := g) (a0 :: a1 :: a2 :: a3 :: a4 :: a5 :: a6 :: a7 :: a8 :: a9 :: a10 :: a11 :: a12 :: a13 :: some (.int (ii z)) :: t) 0 14 (.int (ii z)) rfl)
  refine lv_iinc (i := 14) (k := kx) hv.1.1 hv.1.2.1 hd1 (LH_has hv.2.2.2.2.2) hk (ii_add z n).symm (LH_len hv.2.2.2.2.2 14 (by simp only [List.length_cons]; omega)) rfl (fun lsB hB => ?_)
  exact k p e s m args below meth c H locs cells slots R lsB ⟨hv.1, hv.2.1, hv.2.2.1, hv.2.2.2.1, hv.2.2.2.2.1, LH_st (i := 14) (v := .int (ii (z + n))) hv.2.2.2.2.2 (okc_p (a := a13) rfl hc) hB⟩
theorem v_ist15 {x : Int32} {a0 a1 a2 a3 a4 a5 a6 a7 a8 a9 a10 a11 a12 a13 a14 b : Option Value} {t : List (Option Value)} (hd : DC (mCc mt) pc (.istore 15) 2 pc2) (hc : okc a14 = true) (k : V l g mt dp Z bc bs pc2 (a0 :: a1 :: a2 :: a3 :: a4 :: a5 :: a6 :: a7 :: a8 :: a9 :: a10 :: a11 :: a12 :: a13 :: a14 :: some (.int x) :: t) st S I X) : V l g mt dp Z bc bs pc (a0 :: a1 :: a2 :: a3 :: a4 :: a5 :: a6 :: a7 :: a8 :: a9 :: a10 :: a11 :: a12 :: a13 :: a14 :: b :: t) (.int x :: st) S I X := by
  obtain ⟨hd1, rfl⟩ := hd
  intro p e s m args below meth c H locs cells slots R lsA hv
  refine lv_istore (i := 15) hv.1.1 hv.1.2.1 hd1 (LH_has hv.2.2.2.2.2) (LH_len hv.2.2.2.2.2 15 (by simp only [List.length_cons]; omega)) rfl (fun lsB hB => ?_)
  exact k p e s m args below meth c H locs cells slots R lsB ⟨hv.1, hv.2.1, hv.2.2.1, hv.2.2.2.1, hv.2.2.2.2.1, LH_st (i := 15) (v := .int x) hv.2.2.2.2.2 (okc_p (a := a14) rfl hc) hB⟩
theorem v_ast15 {x : Nat} {a0 a1 a2 a3 a4 a5 a6 a7 a8 a9 a10 a11 a12 a13 a14 b : Option Value} {t : List (Option Value)} (hd : DC (mCc mt) pc (.astore 15) 2 pc2) (hc : okc a14 = true) (k : V l g mt dp Z bc bs pc2 (a0 :: a1 :: a2 :: a3 :: a4 :: a5 :: a6 :: a7 :: a8 :: a9 :: a10 :: a11 :: a12 :: a13 :: a14 :: some (.ref x) :: t) st S I X) : V l g mt dp Z bc bs pc (a0 :: a1 :: a2 :: a3 :: a4 :: a5 :: a6 :: a7 :: a8 :: a9 :: a10 :: a11 :: a12 :: a13 :: a14 :: b :: t) (.ref x :: st) S I X := by
  obtain ⟨hd1, rfl⟩ := hd
  intro p e s m args below meth c H locs cells slots R lsA hv
  refine lv_astore (i := 15) hv.1.1 hv.1.2.1 hd1 (LH_has hv.2.2.2.2.2) (LH_len hv.2.2.2.2.2 15 (by simp only [List.length_cons]; omega)) rfl (fun lsB hB => ?_)
  exact k p e s m args below meth c H locs cells slots R lsB ⟨hv.1, hv.2.1, hv.2.2.1, hv.2.2.2.1, hv.2.2.2.2.1, LH_st (i := 15) (v := .ref x) hv.2.2.2.2.2 (okc_p (a := a14) rfl hc) hB⟩
theorem v_fst15 {x : UInt32} {a0 a1 a2 a3 a4 a5 a6 a7 a8 a9 a10 a11 a12 a13 a14 b : Option Value} {t : List (Option Value)} (hd : DC (mCc mt) pc (.fstore 15) 2 pc2) (hc : okc a14 = true) (k : V l g mt dp Z bc bs pc2 (a0 :: a1 :: a2 :: a3 :: a4 :: a5 :: a6 :: a7 :: a8 :: a9 :: a10 :: a11 :: a12 :: a13 :: a14 :: some (.float x) :: t) st S I X) : V l g mt dp Z bc bs pc (a0 :: a1 :: a2 :: a3 :: a4 :: a5 :: a6 :: a7 :: a8 :: a9 :: a10 :: a11 :: a12 :: a13 :: a14 :: b :: t) (.float x :: st) S I X := by
  obtain ⟨hd1, rfl⟩ := hd
  intro p e s m args below meth c H locs cells slots R lsA hv
  refine lv_fstore (i := 15) hv.1.1 hv.1.2.1 hd1 (LH_has hv.2.2.2.2.2) (LH_len hv.2.2.2.2.2 15 (by simp only [List.length_cons]; omega)) rfl (fun lsB hB => ?_)
  exact k p e s m args below meth c H locs cells slots R lsB ⟨hv.1, hv.2.1, hv.2.2.1, hv.2.2.2.1, hv.2.2.2.2.1, LH_st (i := 15) (v := .float x) hv.2.2.2.2.2 (okc_p (a := a14) rfl hc) hB⟩
theorem v_lst15 {x : Int64} {a0 a1 a2 a3 a4 a5 a6 a7 a8 a9 a10 a11 a12 a13 a14 b b2 : Option Value} {t : List (Option Value)} (hd : DC (mCc mt) pc (.lstore 15) 2 pc2) (hc : okc a14 = true) (k : V l g mt dp Z bc bs pc2 (a0 :: a1 :: a2 :: a3 :: a4 :: a5 :: a6 :: a7 :: a8 :: a9 :: a10 :: a11 :: a12 :: a13 :: a14 :: some (.long x) :: none :: t) st S I X) : V l g mt dp Z bc bs pc (a0 :: a1 :: a2 :: a3 :: a4 :: a5 :: a6 :: a7 :: a8 :: a9 :: a10 :: a11 :: a12 :: a13 :: a14 :: b :: b2 :: t) (.long x :: st) S I X := by
  obtain ⟨hd1, rfl⟩ := hd
  intro p e s m args below meth c H locs cells slots R lsA hv
  refine lv_lstore (i := 15) hv.1.1 hv.1.2.1 hd1 (LH_has hv.2.2.2.2.2) (LH_len hv.2.2.2.2.2 16 (by simp only [List.length_cons]; omega)) rfl (fun lsB hB => ?_)
  exact k p e s m args below meth c H locs cells slots R lsB ⟨hv.1, hv.2.1, hv.2.2.1, hv.2.2.2.1, hv.2.2.2.2.1, LH_st2 (i := 15) (v := .long x) hv.2.2.2.2.2 (okc_p (a := a14) rfl hc) hB⟩
theorem v_iinc15 {z n : Int} {a0 a1 a2 a3 a4 a5 a6 a7 a8 a9 a10 a11 a12 a13 a14 : Option Value} {t : List (Option Value)} (hd : DC (mCc mt) pc (.iinc 15 n) 3 pc2) (hc : okc a14 = true) (k : V l g mt dp Z bc bs pc2 (a0 :: a1 :: a2 :: a3 :: a4 :: a5 :: a6 :: a7 :: a8 :: a9 :: a10 :: a11 :: a12 :: a13 :: a14 :: some (.int (ii (z + n))) :: t) st S I X) : V l g mt dp Z bc bs pc (a0 :: a1 :: a2 :: a3 :: a4 :: a5 :: a6 :: a7 :: a8 :: a9 :: a10 :: a11 :: a12 :: a13 :: a14 :: some (.int (ii z)) :: t) st S I X := by
  obtain ⟨hd1, rfl⟩ := hd
  intro p e s m args below meth c H locs cells slots R lsA hv
  obtain ⟨kx, hk⟩ := List.getElem?_of_mem (lvl_mem (g := g) (a0 :: a1 :: a2 :: a3 :: a4 :: a5 :: a6 :: a7 :: a8 :: a9 :: a10 :: a11 :: a12 :: a13 :: a14 :: some (.int (ii z)) :: t) 0 15 (.int (ii z)) rfl)
  refine lv_iinc (i := 15) (k := kx) hv.1.1 hv.1.2.1 hd1 (LH_has hv.2.2.2.2.2) hk (ii_add z n).symm (LH_len hv.2.2.2.2.2 15 (by simp only [List.length_cons]; omega)) rfl (fun lsB hB => ?_)
  exact k p e s m args below meth c H locs cells slots R lsB ⟨hv.1, hv.2.1, hv.2.2.1, hv.2.2.2.1, hv.2.2.2.2.1, LH_st (i := 15) (v := .int (ii (z + n))) hv.2.2.2.2.2 (okc_p (a := a14) rfl hc) hB⟩
theorem v_if_eq {z off : Int} {tgt : Nat} (hd : DC (mCc mt) pc (.ifCond .eq off) 3 pc2) (ht : (pc : Int) + off = (tgt : Int)) (kt : z = 0 → V l g mt dp Z bc bs tgt ls st S I X) (kf : ¬ z = 0 → V l g mt dp Z bc bs pc2 ls st S I X) (hz : -2147483648 ≤ z ∧ z < 2147483648 := by omega) : V l g mt dp Z bc bs pc ls (.int (ii z) :: st) S I X := by
  obtain ⟨hd1, rfl⟩ := hd
  intro p e s m args below meth c H locs cells slots R lsA hv
  exact lv_if_eq hv.1.1 hv.1.2.1 hd1 ht (fun h => kt ((ii_eq hz (by omega)).mp (h.trans ii_0)) p e s m args below meth c H locs cells slots R lsA hv) (fun h => kf (fun q => h (((ii_eq hz (by omega)).mpr q).trans ii_0.symm)) p e s m args below meth c H locs cells slots R lsA hv)
theorem v_if_ne {z off : Int} {tgt : Nat} (hd : DC (mCc mt) pc (.ifCond .ne off) 3 pc2) (ht : (pc : Int) + off = (tgt : Int)) (kt : ¬ z = 0 → V l g mt dp Z bc bs tgt ls st S I X) (kf : z = 0 → V l g mt dp Z bc bs pc2 ls st S I X) (hz : -2147483648 ≤ z ∧ z < 2147483648 := by omega) : V l g mt dp Z bc bs pc ls (.int (ii z) :: st) S I X := by
  obtain ⟨hd1, rfl⟩ := hd
  intro p e s m args below meth c H locs cells slots R lsA hv
  exact lv_if_ne hv.1.1 hv.1.2.1 hd1 ht (fun h => kt (fun q => h (((ii_eq hz (by omega)).mpr q).trans ii_0.symm)) p e s m args below meth c H locs cells slots R lsA hv) (fun h => kf ((ii_eq hz (by omega)).mp (h.trans ii_0)) p e s m args below meth c H locs cells slots R lsA hv)
theorem v_if_lt {z off : Int} {tgt : Nat} (hd : DC (mCc mt) pc (.ifCond .lt off) 3 pc2) (ht : (pc : Int) + off = (tgt : Int)) (kt : z < 0 → V l g mt dp Z bc bs tgt ls st S I X) (kf : 0 ≤ z → V l g mt dp Z bc bs pc2 ls st S I X) (hz : -2147483648 ≤ z ∧ z < 2147483648 := by omega) : V l g mt dp Z bc bs pc ls (.int (ii z) :: st) S I X := by
  obtain ⟨hd1, rfl⟩ := hd
  intro p e s m args below meth c H locs cells slots R lsA hv
  exact lv_if_lt hv.1.1 hv.1.2.1 hd1 ht (fun h => kt ((ii_lt hz (by omega)).mp (by rw [← ii_0]; exact h)) p e s m args below meth c H locs cells slots R lsA hv) (fun h => kf (Int.not_lt.mp fun q => h (by rw [ii_0]; exact (ii_lt hz (by omega)).mpr q)) p e s m args below meth c H locs cells slots R lsA hv)
theorem v_if_ge {z off : Int} {tgt : Nat} (hd : DC (mCc mt) pc (.ifCond .ge off) 3 pc2) (ht : (pc : Int) + off = (tgt : Int)) (kt : 0 ≤ z → V l g mt dp Z bc bs tgt ls st S I X) (kf : z < 0 → V l g mt dp Z bc bs pc2 ls st S I X) (hz : -2147483648 ≤ z ∧ z < 2147483648 := by omega) : V l g mt dp Z bc bs pc ls (.int (ii z) :: st) S I X := by
  obtain ⟨hd1, rfl⟩ := hd
  intro p e s m args below meth c H locs cells slots R lsA hv
  exact lv_if_ge hv.1.1 hv.1.2.1 hd1 ht (fun h => kt ((ii_le (by omega) hz).mp (by rw [← ii_0]; exact h)) p e s m args below meth c H locs cells slots R lsA hv) (fun h => kf (Int.not_le.mp fun q => h (by rw [ii_0]; exact (ii_le (by omega) hz).mpr q)) p e s m args below meth c H locs cells slots R lsA hv)
theorem v_if_gt {z off : Int} {tgt : Nat} (hd : DC (mCc mt) pc (.ifCond .gt off) 3 pc2) (ht : (pc : Int) + off = (tgt : Int)) (kt : 0 < z → V l g mt dp Z bc bs tgt ls st S I X) (kf : z ≤ 0 → V l g mt dp Z bc bs pc2 ls st S I X) (hz : -2147483648 ≤ z ∧ z < 2147483648 := by omega) : V l g mt dp Z bc bs pc ls (.int (ii z) :: st) S I X := by
  obtain ⟨hd1, rfl⟩ := hd
  intro p e s m args below meth c H locs cells slots R lsA hv
  exact lv_if_gt hv.1.1 hv.1.2.1 hd1 ht (fun h => kt ((ii_lt (by omega) hz).mp (by rw [← ii_0]; exact h)) p e s m args below meth c H locs cells slots R lsA hv) (fun h => kf (Int.not_lt.mp fun q => h (by rw [ii_0]; exact (ii_lt (by omega) hz).mpr q)) p e s m args below meth c H locs cells slots R lsA hv)
theorem v_if_le {z off : Int} {tgt : Nat} (hd : DC (mCc mt) pc (.ifCond .le off) 3 pc2) (ht : (pc : Int) + off = (tgt : Int)) (kt : z ≤ 0 → V l g mt dp Z bc bs tgt ls st S I X) (kf : 0 < z → V l g mt dp Z bc bs pc2 ls st S I X) (hz : -2147483648 ≤ z ∧ z < 2147483648 := by omega) : V l g mt dp Z bc bs pc ls (.int (ii z) :: st) S I X := by
  obtain ⟨hd1, rfl⟩ := hd
  intro p e s m args below meth c H locs cells slots R lsA hv
  exact lv_if_le hv.1.1 hv.1.2.1 hd1 ht (fun h => kt ((ii_le hz (by omega)).mp (by rw [← ii_0]; exact h)) p e s m args below meth c H locs cells slots R lsA hv) (fun h => kf (Int.not_le.mp fun q => h (by rw [ii_0]; exact (ii_le hz (by omega)).mpr q)) p e s m args below meth c H locs cells slots R lsA hv)
theorem v_ic_eq {a b off : Int} {tgt : Nat} (hd : DC (mCc mt) pc (.if_icmp .eq off) 3 pc2) (ht : (pc : Int) + off = (tgt : Int)) (kt : a = b → V l g mt dp Z bc bs tgt ls st S I X) (kf : ¬ a = b → V l g mt dp Z bc bs pc2 ls st S I X) (ha : -2147483648 ≤ a ∧ a < 2147483648 := by omega) (hb : -2147483648 ≤ b ∧ b < 2147483648 := by omega) : V l g mt dp Z bc bs pc ls (.int (ii b) :: .int (ii a) :: st) S I X := by
  obtain ⟨hd1, rfl⟩ := hd
  intro p e s m args below meth c H locs cells slots R lsA hv
  exact lv_icmp_eq hv.1.1 hv.1.2.1 hd1 ht (fun h => kt ((ii_eq ha hb).mp h) p e s m args below meth c H locs cells slots R lsA hv) (fun h => kf (fun q => h ((ii_eq ha hb).mpr q)) p e s m args below meth c H locs cells slots R lsA hv)
theorem v_ic_ne {a b off : Int} {tgt : Nat} (hd : DC (mCc mt) pc (.if_icmp .ne off) 3 pc2) (ht : (pc : Int) + off = (tgt : Int)) (kt : ¬ a = b → V l g mt dp Z bc bs tgt ls st S I X) (kf : a = b → V l g mt dp Z bc bs pc2 ls st S I X) (ha : -2147483648 ≤ a ∧ a < 2147483648 := by omega) (hb : -2147483648 ≤ b ∧ b < 2147483648 := by omega) : V l g mt dp Z bc bs pc ls (.int (ii b) :: .int (ii a) :: st) S I X := by
  obtain ⟨hd1, rfl⟩ := hd
  intro p e s m args below meth c H locs cells slots R lsA hv
  exact lv_icmp_ne hv.1.1 hv.1.2.1 hd1 ht (fun h => kt (fun q => h ((ii_eq ha hb).mpr q)) p e s m args below meth c H locs cells slots R lsA hv) (fun h => kf ((ii_eq ha hb).mp h) p e s m args below meth c H locs cells slots R lsA hv)
theorem v_ic_lt {a b off : Int} {tgt : Nat} (hd : DC (mCc mt) pc (.if_icmp .lt off) 3 pc2) (ht : (pc : Int) + off = (tgt : Int)) (kt : a < b → V l g mt dp Z bc bs tgt ls st S I X) (kf : b ≤ a → V l g mt dp Z bc bs pc2 ls st S I X) (ha : -2147483648 ≤ a ∧ a < 2147483648 := by omega) (hb : -2147483648 ≤ b ∧ b < 2147483648 := by omega) : V l g mt dp Z bc bs pc ls (.int (ii b) :: .int (ii a) :: st) S I X := by
  obtain ⟨hd1, rfl⟩ := hd
  intro p e s m args below meth c H locs cells slots R lsA hv
  exact lv_icmp_lt hv.1.1 hv.1.2.1 hd1 ht (fun h => kt ((ii_lt ha hb).mp h) p e s m args below meth c H locs cells slots R lsA hv) (fun h => kf (Int.not_lt.mp fun q => h ((ii_lt ha hb).mpr q)) p e s m args below meth c H locs cells slots R lsA hv)
theorem v_ic_ge {a b off : Int} {tgt : Nat} (hd : DC (mCc mt) pc (.if_icmp .ge off) 3 pc2) (ht : (pc : Int) + off = (tgt : Int)) (kt : b ≤ a → V l g mt dp Z bc bs tgt ls st S I X) (kf : a < b → V l g mt dp Z bc bs pc2 ls st S I X) (ha : -2147483648 ≤ a ∧ a < 2147483648 := by omega) (hb : -2147483648 ≤ b ∧ b < 2147483648 := by omega) : V l g mt dp Z bc bs pc ls (.int (ii b) :: .int (ii a) :: st) S I X := by
  obtain ⟨hd1, rfl⟩ := hd
  intro p e s m args below meth c H locs cells slots R lsA hv
  exact lv_icmp_ge hv.1.1 hv.1.2.1 hd1 ht (fun h => kt ((ii_le hb ha).mp h) p e s m args below meth c H locs cells slots R lsA hv) (fun h => kf (Int.not_le.mp fun q => h ((ii_le hb ha).mpr q)) p e s m args below meth c H locs cells slots R lsA hv)
theorem v_ic_gt {a b off : Int} {tgt : Nat} (hd : DC (mCc mt) pc (.if_icmp .gt off) 3 pc2) (ht : (pc : Int) + off = (tgt : Int)) (kt : b < a → V l g mt dp Z bc bs tgt ls st S I X) (kf : a ≤ b → V l g mt dp Z bc bs pc2 ls st S I X) (ha : -2147483648 ≤ a ∧ a < 2147483648 := by omega) (hb : -2147483648 ≤ b ∧ b < 2147483648 := by omega) : V l g mt dp Z bc bs pc ls (.int (ii b) :: .int (ii a) :: st) S I X := by
  obtain ⟨hd1, rfl⟩ := hd
  intro p e s m args below meth c H locs cells slots R lsA hv
  exact lv_icmp_gt hv.1.1 hv.1.2.1 hd1 ht (fun h => kt ((ii_lt hb ha).mp h) p e s m args below meth c H locs cells slots R lsA hv) (fun h => kf (Int.not_lt.mp fun q => h ((ii_lt hb ha).mpr q)) p e s m args below meth c H locs cells slots R lsA hv)
theorem v_ic_le {a b off : Int} {tgt : Nat} (hd : DC (mCc mt) pc (.if_icmp .le off) 3 pc2) (ht : (pc : Int) + off = (tgt : Int)) (kt : a ≤ b → V l g mt dp Z bc bs tgt ls st S I X) (kf : b < a → V l g mt dp Z bc bs pc2 ls st S I X) (ha : -2147483648 ≤ a ∧ a < 2147483648 := by omega) (hb : -2147483648 ≤ b ∧ b < 2147483648 := by omega) : V l g mt dp Z bc bs pc ls (.int (ii b) :: .int (ii a) :: st) S I X := by
  obtain ⟨hd1, rfl⟩ := hd
  intro p e s m args below meth c H locs cells slots R lsA hv
  exact lv_icmp_le hv.1.1 hv.1.2.1 hd1 ht (fun h => kt ((ii_le ha hb).mp h) p e s m args below meth c H locs cells slots R lsA hv) (fun h => kf (Int.not_le.mp fun q => h ((ii_le ha hb).mpr q)) p e s m args below meth c H locs cells slots R lsA hv)
theorem v_goto {off : Int} {tgt : Nat} (hd : DC (mCc mt) pc (.goto off) 3 pc2) (ht : (pc : Int) + off = (tgt : Int)) (k : V l g mt dp Z bc bs tgt ls st S I X) : V l g mt dp Z bc bs pc ls st S I X := by
  obtain ⟨hd1, rfl⟩ := hd
  intro p e s m args below meth c H locs cells slots R lsA hv
  exact lv_goto hv.1.1 hv.1.2.1 hd1 ht (k p e s m args below meth c H locs cells slots R lsA hv)
theorem v_ifnull {off : Int} {x : Nat} (hd : DC (mCc mt) pc (.ifnull off) 3 pc2) (k : V l g mt dp Z bc bs pc2 ls st S I X) : V l g mt dp Z bc bs pc ls (.ref x :: st) S I X := by
  obtain ⟨hd1, rfl⟩ := hd
  intro p e s m args below meth c H locs cells slots R lsA hv
  exact lv_ifnull hv.1.1 hv.1.2.1 hd1 (k p e s m args below meth c H locs cells slots R lsA hv)
theorem v_tabIn {dflt lo hi : Int} {offs : Array Int} {len : Nat} {z off : Int} {tgt : Nat} (hd : DC (mCc mt) pc (.tableswitch dflt lo hi offs) len pc2) (h1 : lo ≤ z) (h2 : z ≤ hi) (ho : offs[(z - lo).toNat]? = some off) (ht : (pc : Int) + off = (tgt : Int)) (k : V l g mt dp Z bc bs tgt ls st S I X) (hz : -2147483648 ≤ z ∧ z < 2147483648 := by omega) : V l g mt dp Z bc bs pc ls (.int (ii z) :: st) S I X := by
  obtain ⟨hd1, rfl⟩ := hd
  intro p e s m args below meth c H locs cells slots R lsA hv
  exact lv_tableIn hv.1.1 hv.1.2.1 hd1 (by rw [ii_toInt hz]; omega) (by rw [ii_toInt hz]; omega) (by rw [ii_toInt hz]; exact ho) ht (k p e s m args below meth c H locs cells slots R lsA hv)
theorem v_tabOut {dflt lo hi : Int} {offs : Array Int} {len : Nat} {z : Int} {tgt : Nat} (hd : DC (mCc mt) pc (.tableswitch dflt lo hi offs) len pc2) (h1 : z < lo ∨ hi < z) (ht : (pc : Int) + dflt = (tgt : Int)) (k : V l g mt dp Z bc bs tgt ls st S I X) (hz : -2147483648 ≤ z ∧ z < 2147483648 := by omega) : V l g mt dp Z bc bs pc ls (.int (ii z) :: st) S I X := by
  obtain ⟨hd1, rfl⟩ := hd
  intro p e s m args below meth c H locs cells slots R lsA hv
  exact lv_tableOut hv.1.1 hv.1.2.1 hd1 (by rw [ii_toInt hz]; exact h1) ht (k p e s m args below meth c H locs cells slots R lsA hv)
theorem v_lookup {dflt : Int} {ps : Array (Int × Int)} {len : Nat} {z off : Int} {tgt : Nat} (hd : DC (mCc mt) pc (.lookupswitch dflt ps) len pc2) (hp : (ps.toList.zip (ps.toList.drop 1)).all (fun (a, next) => a.1 < next.1) = true) (ho : Op.lookupswitch.offset ps.toList dflt z = off) (ht : (pc : Int) + off = (tgt : Int)) (k : V l g mt dp Z bc bs tgt ls st S I X) (hz : -2147483648 ≤ z ∧ z < 2147483648 := by omega) : V l g mt dp Z bc bs pc ls (.int (ii z) :: st) S I X := by
  obtain ⟨hd1, rfl⟩ := hd
  intro p e s m args below meth c H locs cells slots R lsA hv
  exact lv_lookup hv.1.1 hv.1.2.1 hd1 hp (by rw [ii_toInt hz]; exact ho) ht (k p e s m args below meth c H locs cells slots R lsA hv)
/-- locals may be forgotten -/
def fgt : List (Option Value) → List (Option Value) → Prop
  | [], [] => True
  | a :: r, b :: s => (a = none ∨ a = b) ∧ fgt r s
  | _, _ => False
theorem fgt_at : ∀ (r s : List (Option Value)), fgt r s → r.length = s.length ∧ ∀ (i : Nat) (u : Value), r[i]? = some (some u) → s[i]? = some (some u)
  | [], [], _ => ⟨rfl, fun i u h => h⟩
  | a :: r, b :: s, h => by
    obtain ⟨h1, h2⟩ := fgt_at r s h.2
    refine ⟨by simp [h1], fun i u hu => ?_⟩
    cases i with
    | zero =>
      have ha : a = some u := by simpa using hu
      rcases h.1 with q | q
      · rw [q] at ha; cases ha
      · rw [← q]; simpa using hu
    | succ i => simpa using h2 i u (by simpa using hu)
  | [], _ :: _, h => h.elim
  | _ :: _, [], h => h.elim
theorem v_fgt {ls2 : List (Option Value)} (h : fgt ls2 ls) (k : V l g mt dp Z bc bs pc ls2 st S I X) : V l g mt dp Z bc bs pc ls st S I X := by
  intro p e s m args below meth c H locs cells slots R lsA hv
  exact k p e s m args below meth c H locs cells slots R lsA ⟨hv.1, hv.2.1, hv.2.2.1, hv.2.2.2.1, hv.2.2.2.2.1, LH_sub hv.2.2.2.2.2 (fgt_at _ _ h).2 (fgt_at _ _ h).1⟩
theorem v_eq {pc3 : Nat} {ls2 : List (Option Value)} {st2 : List Value} {S2 : SS} {I2 : II} {X2 : XX} (k : V l g mt dp Z bc bs pc3 ls2 st2 S2 I2 X2) (h1 : pc = pc3) (h2 : ls = ls2) (h3 : st = st2) (h4 : S = S2) (h5 : I = I2) (h6 : X = X2) : V l g mt dp Z bc bs pc ls st S I X := by
  subst h1; subst h2; subst h3; subst h4; subst h5; subst h6; exact k
end FC
