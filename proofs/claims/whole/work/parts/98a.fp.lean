/-! FLOATS: a quotient of ints by a positive one is no NaN -/
def OKD (f : FP.Core.Fmt) : FP.Core.Datum → Prop
  | .nan => False
  | .inf _ => True
  | .fin _ c q => c < 2 ^ f.p ∧ q ≤ f.qmax
theorem okd_ratio {f : FP.Core.Fmt} (hq : f.qmin ≤ f.qmax) (hp : f.tails < 2 ^ f.p) (s : Bool) (num den : Nat) (e : Int) : OKD f (FP.Core.roundRatio f s num den e) := by
  have h0 : 0 < 2 ^ f.p := Nat.two_pow_pos _
  unfold FP.Core.roundRatio
  split
  · exact ⟨h0, hq⟩
  · unfold FP.Core.roundAt FP.Core.settle FP.Core.bound
    split
    · split
      · exact ⟨by assumption, by assumption⟩
      · exact trivial
    · split
      · exact ⟨hp, by assumption⟩
      · exact trivial
theorem b32_c : FP.Core.b32.tails = 8388608 ∧ FP.Core.b32.exps = 256 ∧ FP.Core.b32.qmin = -149 ∧ FP.Core.b32.qmax = 104 ∧ 2 ^ FP.Core.b32.p = 16777216 := by decide
theorem b64_c : FP.Core.b64.tails = 4503599627370496 ∧ FP.Core.b64.exps = 2048 ∧ FP.Core.b64.qmin = -1074 ∧ FP.Core.b64.qmax = 971 ∧ 2 ^ FP.Core.b64.p = 9007199254740992 := by decide
theorem enc32 {d : FP.Core.Datum} (h : OKD FP.Core.b32 d) : FP.Core.encode FP.Core.b32 d < 4294967296 ∧ FP.Core.encode FP.Core.b32 d % 2147483648 ≤ 2139095040 := by
  obtain ⟨e1, e2, e3, e4, e5⟩ := b32_c
  cases d with
  | nan => exact h.elim
  | inf s => cases s <;> decide
  | fin s c q =>
    obtain ⟨h1, h2⟩ := h
    rw [e5] at h1
    rw [e4] at h2
    have hE : FP.Core.encode FP.Core.b32 (.fin s c q) = if c < FP.Core.b32.tails then (s.toNat * FP.Core.b32.exps + 0) * FP.Core.b32.tails + c else (s.toNat * FP.Core.b32.exps + ((q - FP.Core.b32.qmin).toNat + 1)) * FP.Core.b32.tails + (c - FP.Core.b32.tails) := rfl
    rw [hE, e1, e2, e3]
    have hs : s.toNat = 0 ∨ s.toNat = 1 := by cases s <;> simp
    split
    · rcases hs with hs | hs <;> rw [hs] <;> omega
    · rcases hs with hs | hs <;> rw [hs] <;> omega
theorem enc64 {d : FP.Core.Datum} (h : OKD FP.Core.b64 d) : FP.Core.encode FP.Core.b64 d < 18446744073709551616 ∧ FP.Core.encode FP.Core.b64 d % 9223372036854775808 ≤ 9218868437227405312 := by
  obtain ⟨e1, e2, e3, e4, e5⟩ := b64_c
  cases d with
  | nan => exact h.elim
  | inf s => cases s <;> decide
  | fin s c q =>
    obtain ⟨h1, h2⟩ := h
    rw [e5] at h1
    rw [e4] at h2
    have hE : FP.Core.encode FP.Core.b64 (.fin s c q) = if c < FP.Core.b64.tails then (s.toNat * FP.Core.b64.exps + 0) * FP.Core.b64.tails + c else (s.toNat * FP.Core.b64.exps + ((q - FP.Core.b64.qmin).toNat + 1)) * FP.Core.b64.tails + (c - FP.Core.b64.tails) := rfl
    rw [hE, e1, e2, e3]
    have hs : s.toNat = 0 ∨ s.toNat = 1 := by cases s <;> simp
    split
    · rcases hs with hs | hs <;> rw [hs] <;> omega
    · rcases hs with hs | hs <;> rw [hs] <;> omega
theorem n32_iff {x : UInt32} : vf_n32 x ↔ x.toNat % 2147483648 ≤ 2139095040 := by
  unfold vf_n32
  rw [UInt32.le_iff_toNat_le, UInt32.toNat_and]
  have e : (0x7fffffff : UInt32).toNat = 2 ^ 31 - 1 := by decide
  have e2 : (0x7f800000 : UInt32).toNat = 2139095040 := by decide
  rw [e, e2, Nat.and_two_pow_sub_one_eq_mod]
theorem n64_iff {x : UInt64} : vf_n64 x ↔ x.toNat % 9223372036854775808 ≤ 9218868437227405312 := by
  unfold vf_n64
  rw [UInt64.le_iff_toNat_le, UInt64.toNat_and]
  have e : (0x7fffffffffffffff : UInt64).toNat = 2 ^ 63 - 1 := by decide
  have e2 : (0x7ff0000000000000 : UInt64).toNat = 9218868437227405312 := by decide
  rw [e, e2, Nat.and_two_pow_sub_one_eq_mod]
theorem dec32 {n : Nat} (h : n % 2147483648 ≤ 2139095040) : ¬ FP.Core.decode FP.Core.b32 n = .nan := by
  obtain ⟨e1, e2, e3, e4, e5⟩ := b32_c
  unfold FP.Core.decode FP.Core.fieldE FP.Core.fieldT
  rw [e1, e2]
  split
  · split
    · intro q; cases q
    · omega
  · split <;> (intro q; cases q)
theorem dec64 {n : Nat} (h : n % 9223372036854775808 ≤ 9218868437227405312) : ¬ FP.Core.decode FP.Core.b64 n = .nan := by
  obtain ⟨e1, e2, e3, e4, e5⟩ := b64_c
  unfold FP.Core.decode FP.Core.fieldE FP.Core.fieldT
  rw [e1, e2]
  split
  · split
    · intro q; cases q
    · omega
  · split <;> (intro q; cases q)
theorem near_ge {a d : Nat} (hd : 0 < d) (h : d ≤ a) : 1 ≤ FP.Core.nearest a d := by
  have h1 : 1 ≤ a / d := (Nat.le_div_iff_mul_le hd).mpr (by omega)
  unfold FP.Core.nearest
  split
  · exact h1
  · split <;> omega
/-- a whole number of 32 bits, rounded: not zero if it isn't, not too great -/
theorem ratio_int {a : Nat} (ha : a ≠ 0) (hb : a ≤ 2147483648) (s : Bool) : ∃ c q, FP.Core.roundRatio FP.Core.b32 s a 1 0 = .fin s c q ∧ c ≠ 0 ∧ c < 16777216 ∧ q ≤ 100 := by
  obtain ⟨e1, e2, e3, e4, e5⟩ := b32_c
  have hl : Nat.log2 1 = 0 := by decide
  have hlow : 2 ^ a.log2 ≤ a := Nat.log2_self_le ha
  have hlog : a.log2 ≤ 31 := by
    have : a.log2 < 32 := (Nat.log2_lt ha).mpr (by omega)
    omega
  have hk : FP.Core.leading a 1 = (a.log2 : Int) := by
    unfold FP.Core.leading
    rw [hl]
    show (if 1 * 2 ^ ((a.log2 : Int) - ((0 : Nat) : Int)).toNat ≤ a * 2 ^ (-((a.log2 : Int) - ((0 : Nat) : Int))).toNat then (a.log2 : Int) - ((0 : Nat) : Int) else (a.log2 : Int) - ((0 : Nat) : Int) - 1) = _
    have t1 : ((a.log2 : Int) - ((0 : Nat) : Int)).toNat = a.log2 := by omega
    have t2 : (-((a.log2 : Int) - ((0 : Nat) : Int))).toNat = 0 := by omega
    rw [t1, t2, if_pos (by omega)]
    omega
  have hq : FP.Core.quantum FP.Core.b32 a 1 0 = (a.log2 : Int) - 23 := by
    unfold FP.Core.quantum
    rw [hk, e3]
    have : ((FP.Core.b32.p : Nat) : Int) = 24 := by decide
    rw [this]
    omega
  unfold FP.Core.roundRatio
  rw [if_neg ha, hq]
  unfold FP.Core.roundAt
  have hc : 1 ≤ FP.Core.nearest (FP.Core.unitsNum a 0 ((a.log2 : Int) - 23)) (FP.Core.unitsDen 1 0 ((a.log2 : Int) - 23)) := by
    unfold FP.Core.unitsNum FP.Core.unitsDen
    refine near_ge (Nat.mul_pos (by decide) (Nat.two_pow_pos _)) ?_
    by_cases h23 : a.log2 ≤ 23
    · have t1 : ((a.log2 : Int) - 23 - 0).toNat = 0 := by omega
      rw [t1]
      have : 1 ≤ 2 ^ (0 - ((a.log2 : Int) - 23)).toNat := Nat.two_pow_pos _
      exact Nat.le_trans (by decide) (Nat.mul_le_mul (show 1 ≤ a by omega) this)
    · have t1 : (0 - ((a.log2 : Int) - 23)).toNat = 0 := by omega
      have t2 : ((a.log2 : Int) - 23 - 0).toNat ≤ a.log2 := by omega
      rw [t1, Nat.one_mul, Nat.pow_zero, Nat.mul_one]
      exact Nat.le_trans (Nat.pow_le_pow_right (by decide) t2) hlow
  generalize FP.Core.nearest (FP.Core.unitsNum a 0 ((a.log2 : Int) - 23)) (FP.Core.unitsDen 1 0 ((a.log2 : Int) - 23)) = c at hc
  unfold FP.Core.settle FP.Core.bound
  rw [e5, e4, e1]
  split
  · rw [if_pos (by omega)]
    exact ⟨_, _, rfl, by omega, by omega, by omega⟩
  · rw [if_pos (by omega)]
    exact ⟨_, _, rfl, by omega, by omega, by omega⟩
theorem i2f_fin (a : Int32) : ∃ s c q, FP.Core.decode FP.Core.b32 (FP.i2f a).toNat = .fin s c q ∧ (¬ a.toInt = 0 → c ≠ 0) := by
  obtain ⟨e1, e2, e3, e4, e5⟩ := b32_c
  have hr := ii_rng a
  show ∃ s c q, FP.Core.decode FP.Core.b32 (UInt32.ofNat (FP.Core.encode FP.Core.b32 (FP.Core.roundRatio FP.Core.b32 (decide (a.toInt < 0)) a.toInt.natAbs 1 0))).toNat = .fin s c q ∧ _
  by_cases h0 : a.toInt = 0
  · rw [h0]
    refine ⟨false, 0, -149, by decide, fun h => absurd rfl h⟩
  · obtain ⟨c, q, h1, h2, h3, h4⟩ := ratio_int (a := a.toInt.natAbs) (by omega) (by omega) (decide (a.toInt < 0))
    rw [h1]
    generalize decide (a.toInt < 0) = s
    have hn : FP.Core.encode FP.Core.b32 (.fin s c q) < 4294967296 := (enc32 (d := .fin s c q) ⟨by rw [e5]; exact h3, by rw [e4]; omega⟩).1
    have ht : (UInt32.ofNat (FP.Core.encode FP.Core.b32 (.fin s c q))).toNat = FP.Core.encode FP.Core.b32 (.fin s c q) := by
      rw [UInt32.toNat_ofNat']
      exact Nat.mod_eq_of_lt hn
    rw [ht]
    have hE : FP.Core.encode FP.Core.b32 (.fin s c q) = if c < 8388608 then (s.toNat * 256 + 0) * 8388608 + c else (s.toNat * 256 + ((q + 149).toNat + 1)) * 8388608 + (c - 8388608) := by
      have hE : FP.Core.encode FP.Core.b32 (.fin s c q) = if c < FP.Core.b32.tails then (s.toNat * FP.Core.b32.exps + 0) * FP.Core.b32.tails + c else (s.toNat * FP.Core.b32.exps + ((q - FP.Core.b32.qmin).toNat + 1)) * FP.Core.b32.tails + (c - FP.Core.b32.tails) := rfl
      rw [hE, e1, e2, e3]
      have : q - -149 = q + 149 := by omega
      rw [this]
    rw [hE]
    have hs : s.toNat = 0 ∨ s.toNat = 1 := by cases s <;> simp
    unfold FP.Core.decode
    have eE : ∀ n, FP.Core.fieldE FP.Core.b32 n = n / 8388608 % 256 := fun n => by unfold FP.Core.fieldE; rw [e1, e2]
    have eT : ∀ n, FP.Core.fieldT FP.Core.b32 n = n % 8388608 := fun n => by unfold FP.Core.fieldT; rw [e1]
    rw [e2, e1]
    simp only [eE, eT]
    by_cases hc : c < 8388608
    · rw [if_pos hc]
      rw [if_neg (by rcases hs with hs | hs <;> rw [hs] <;> omega), if_pos (by rcases hs with hs | hs <;> rw [hs] <;> omega)]
      exact ⟨_, _, _, rfl, fun _ => by rcases hs with hs | hs <;> rw [hs] <;> omega⟩
    · rw [if_neg hc]
      rw [if_neg (by rcases hs with hs | hs <;> rw [hs] <;> omega), if_neg (by rcases hs with hs | hs <;> rw [hs] <;> omega)]
      exact ⟨_, _, _, rfl, fun _ => by omega⟩
theorem hfd : ∀ u t : Int, 0 < t → t < 2147483648 → vf_n32 (FP.fdiv (FP.i2f (ii u)) (FP.i2f (ii t))) := by
  intro u t h1 h2
  obtain ⟨s, c, q, d1, _⟩ := i2f_fin (ii u)
  obtain ⟨s2, c2, q2, d2, d3⟩ := i2f_fin (ii t)
  have hc2 := d3 (by rw [ii_toInt (by omega)]; omega)
  have e : FP.fdiv (FP.i2f (ii u)) (FP.i2f (ii t)) = UInt32.ofNat (FP.Core.encode FP.Core.b32 (FP.Core.roundRatio FP.Core.b32 (s != s2) c c2 (q - q2))) := by
    show UInt32.ofNat (FP.Core.encode FP.Core.b32 (FP.Core.quotient FP.Core.b32 (FP.Core.decode FP.Core.b32 (FP.i2f (ii u)).toNat) (FP.Core.decode FP.Core.b32 (FP.i2f (ii t)).toNat))) = _
    rw [d1, d2]
    have hQ : FP.Core.quotient FP.Core.b32 (.fin s c q) (.fin s2 c2 q2) = if c2 = 0 then (if c = 0 then .nan else .inf (s != s2)) else FP.Core.roundRatio FP.Core.b32 (s != s2) c c2 (q - q2) := rfl
    rw [hQ, if_neg hc2]
  have hk := enc32 (okd_ratio (f := FP.Core.b32) (by decide) (by decide) (s != s2) c c2 (q - q2))
  rw [e, n32_iff, UInt32.toNat_ofNat', Nat.mod_eq_of_lt hk.1]
  exact hk.2
theorem f2d_n64 {x : UInt32} (h : vf_n32 x) : vf_n64 (FP.f2d x) := by
  rw [n32_iff] at h
  have hd := dec32 h
  have hn : FP.Core.fIsNaN x = false := by
    unfold FP.Core.fIsNaN FP.Core.isNaN
    exact decide_eq_false hd
  unfold FP.f2d
  rw [hn, if_neg (by decide)]
  show vf_n64 (UInt64.ofNat (FP.Core.encode FP.Core.b64 (FP.Core.round FP.Core.b64 (FP.Core.decode FP.Core.b32 x.toNat))))
  have hk : OKD FP.Core.b64 (FP.Core.round FP.Core.b64 (FP.Core.decode FP.Core.b32 x.toNat)) := by
    cases hx : FP.Core.decode FP.Core.b32 x.toNat with
    | nan => exact absurd hx hd
    | inf s => exact trivial
    | fin s c q => exact okd_ratio (f := FP.Core.b64) (by decide) (by decide) s c 1 q
  have hk := enc64 hk
  rw [n64_iff, UInt64.toNat_ofNat', Nat.mod_eq_of_lt hk.1]
  exact hk.2
theorem dcmp_self {x : UInt64} (h : vf_n64 x) : Op.cmpValue (FP.dcmp x x) .l = ii 0 := by
  rw [n64_iff] at h
  have hd := dec64 h
  have e : FP.dcmp x x = some .eq := by
    show FP.Core.order (FP.Core.decode FP.Core.b64 x.toNat) (FP.Core.decode FP.Core.b64 x.toNat) = _
    cases hx : FP.Core.decode FP.Core.b64 x.toNat with
    | nan => exact absurd hx hd
    | inf s => cases s <;> decide
    | fin s c q =>
      show some (compare _ _) = some .eq
      rw [Std.compare_self]
  rw [e]
  decide
