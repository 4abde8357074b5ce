/-! COUNTING: what holds all along, the steps of a round -/
def CI (I : II) (c e : Nat) : Prop := WfE I e ∧ RG I ∧ (0 ≤ I c 10 ∧ I c 10 < 256) ∧ (0 ≤ I c 11 ∧ I c 11 < 256) ∧ (0 ≤ I (c + 1) 1 ∧ I (c + 1) 1 ≤ 8) ∧ (∀ p, -1 ≤ I (c + 49) p ∧ I (c + 49) p ≤ 8) ∧ ∀ r, 0 ≤ I (c + 19 + 7) r ∧ I (c + 19 + 7) r < 256
theorem CI_up {I : II} {c e a k : Nat} {z : Int} (h : CI I c e) (hz : -2147483648 ≤ z ∧ z < 2147483648) (ha : a < e ∨ e + 31 ≤ a) (hsp : e + 31 ≤ c) (h1 : a = c → (k = 10 ∨ k = 11) → 0 ≤ z ∧ z < 256) (h2 : a = c + 1 → k = 1 → 0 ≤ z ∧ z ≤ 8) (h3 : a = c + 49 → -1 ≤ z ∧ z ≤ 8) (h4 : a = c + 19 + 7 → 0 ≤ z ∧ z < 256) : CI (up I a k z) c e := by
  obtain ⟨g1, g2, g3, g4, g5, g6, g7⟩ := h
  refine ⟨WfE_of g1 (fun x hx1 hx2 => up_ne (by omega)), rg_up g2 hz, ?_, ?_, ?_, fun p => ?_, fun r => ?_⟩
  · by_cases e1 : c = a
    · subst e1
      by_cases e2 : 10 = k
      · subst e2; rw [up_eq]; exact h1 rfl (Or.inl rfl)
      · rw [up_nk e2]; exact g3
    · rw [up_ne e1]; exact g3
  · by_cases e1 : c = a
    · subst e1
      by_cases e2 : 11 = k
      · subst e2; rw [up_eq]; exact h1 rfl (Or.inr rfl)
      · rw [up_nk e2]; exact g4
    · rw [up_ne e1]; exact g4
  · by_cases e1 : c + 1 = a
    · subst e1
      by_cases e2 : 1 = k
      · subst e2; rw [up_eq]; exact h2 rfl rfl
      · rw [up_nk e2]; exact g5
    · rw [up_ne e1]; exact g5
  · by_cases e1 : c + 49 = a
    · subst e1
      by_cases e2 : p = k
      · subst e2; rw [up_eq]; exact h3 rfl
      · rw [up_nk e2]; exact g6 p
    · rw [up_ne e1]; exact g6 p
  · by_cases e1 : c + 19 + 7 = a
    · subst e1
      by_cases e2 : r = k
      · subst e2; rw [up_eq]; exact h4 rfl
      · rw [up_nk e2]; exact g7 r
    · rw [up_ne e1]; exact g7 r
/-- a cell that none of what holds speaks of -/
theorem CI_far {I : II} {c e a k : Nat} {z : Int} (h : CI I c e) (hsp : e + 31 ≤ c) (hz : -2147483648 ≤ z ∧ z < 2147483648) (ha : c < a) (h1 : a ≠ c + 1) (h3 : a ≠ c + 49) (h4 : a ≠ c + 19 + 7) : CI (up I a k z) c e :=
  CI_up h hz (Or.inr (by omega)) hsp (fun q => by omega) (fun q => absurd q h1) (fun q => absurd q h3) (fun q => absurd q h4)
theorem CI_cpy {I : II} {c e a0 a sp dp n : Nat} (h : CI I c e) (hsp : e + 31 ≤ c) (ha : c + 1 < a) (h3 : a ≠ c + 49) (h4 : a ≠ c + 19 + 7) : CI (cpy I a0 a sp dp n) c e := by
  obtain ⟨g1, g2, g3, g4, g5, g6, g7⟩ := h
  refine ⟨WfE_of g1 (fun x hx1 hx2 => cpy_ne (by omega)), rg_cpy g2, ?_, ?_, ?_, fun p => ?_, fun r => ?_⟩
  · rw [cpy_ne (by omega)]; exact g3
  · rw [cpy_ne (by omega)]; exact g4
  · rw [cpy_ne (by omega)]; exact g5
  · rw [cpy_ne (fun q => h3 q.symm)]; exact g6 p
  · rw [cpy_ne (fun q => h4 q.symm)]; exact g7 r
theorem nextF_le (f : Nat → Int) (h : Nat) : ∀ n k, nextF f h n k ≤ k + n
  | 0, k => by show k ≤ k + 0; omega
  | n + 1, k => by
    unfold nextF
    split
    · have := nextF_le f h n (k + 1)
      omega
    · omega
theorem CI_send {I : II} {c e p : Nat} {r : Int} (h : CI I c e) (hsp : e + 31 ≤ c) (hp : p < 25) (hr : -2147483648 ≤ r ∧ r < 2147483648) : CI (sendM I c e p r) c e := by
  have g := h
  obtain ⟨g1, g2, g3, g4, g5, g6, g7⟩ := g
  obtain ⟨w0, w1, w2, w3, w4, w5, w6, w7, w8, w9⟩ := g1
  have w7p := w7 p hp
  have g6p := g6 p
  unfold sendM
  split
  · rename_i hk
    have hk8 : sendK I c e p < 8 := by omega
    have hq := w8 p _ hp hk8
    refine CI_far (CI_far (CI_up (CI_far h hsp ?_ (by omega) (by omega) (by omega) (by omega)) ?_ (Or.inr (by omega)) hsp (fun q => by omega) (fun q => by omega) (fun q => by omega) (fun q => by omega)) hsp hr (by omega) (by omega) (by omega) (by omega)) hsp (wr_rng _) (by omega) (by omega) (by omega) (by omega)
    · omega
    · omega
  · exact CI_up (CI_far h hsp (by omega) (by omega) (by omega) (by omega) (by omega)) (wr_rng _) (Or.inr (by omega)) hsp (fun _ q => by omega) (fun q => by omega) (fun q => by omega) (fun q => by omega)
/-! the choice, by what holds -/
def chq (I : II) (c e s r : Nat) (m : Int) : Nat × Int × Int := chT (fun k => I (c + 1 + 4 + k)) (I e 0).toNat (I (e + 1) 2) r m s r
def chV (I : II) (c e s r : Nat) (m : Int) : Int := lotF (I (e + 2)) (chq I c e s r m).1 m (I e 0).toNat (I e 0).toNat 0
def chJ (I : II) (c e s r : Nat) (m : Int) : II := chM I (c + 14) (chq I c e s r m)
theorem lotF_ok {f : Nat → Int} {s : Nat} {m : Int} {n : Nat} (hn : n ≤ 8) (hf : ∀ k, k < 8 → 0 ≤ f k ∧ f k < 8) : ∀ k i, i + k ≤ n → lotF f s m n k i = -1 ∨ (0 ≤ lotF f s m n k i ∧ lotF f s m n k i < 8)
  | 0, _, _ => Or.inl rfl
  | k + 1, i, h => by
    unfold lotF
    have hj : (if m = 0 then n - 1 - i else i) < 8 := by split <;> omega
    generalize (if m = 0 then n - 1 - i else i) = j at hj
    split
    · exact lotF_ok hn hf k (i + 1) (by omega)
    · exact Or.inr (hf j hj)
theorem chV_ok {I : II} {c e s r : Nat} {m : Int} (h : WfE I e) : chV I c e s r m = -1 ∨ (0 ≤ chV I c e s r m ∧ chV I c e s r m < 8) := by
  obtain ⟨w0, w1, w2, w3, w4, w5, w6, w7, w8, w9, w10⟩ := h
  exact lotF_ok (by omega) w9 _ 0 (by omega)
theorem chT_rng {F : Nat → Nat → Int} {nc r s : Nat} {tr m : Int} (hr9 : r < 9) : ∀ i, i ≤ r → (-1 ≤ (chT F nc tr r m s i).2.1 ∧ (chT F nc tr r m s i).2.1 ≤ 5) ∧ -1 ≤ (chT F nc tr r m s i).2.2 ∧ (chT F nc tr r m s i).2.2 < 9
  | 0, _ => by
    show (-1 ≤ (3 : Int) ∧ (3 : Int) ≤ 5) ∧ -1 ≤ (-1 : Int) ∧ (-1 : Int) < 9
    decide
  | i + 1, h => by
    have ih := chT_rng (F := F) (nc := nc) (s := s) (tr := tr) (m := m) hr9 i (by omega)
    show (-1 ≤ (chS F nc tr r m i (chT F nc tr r m s i)).2.1 ∧ _) ∧ _
    rw [show chT F nc tr r m s (i + 1) = chS F nc tr r m i (chT F nc tr r m s i) from rfl]
    unfold chS
    have hk : (if tr = 0 then r - 1 - i else i) < 9 := by split <;> omega
    generalize (if tr = 0 then r - 1 - i else i) = k at hk
    split
    · exact ih
    · split
      · exact ih
      · dsimp only
        omega
theorem chJ_ne {I : II} {c e s r x : Nat} {m : Int} (h : x ≠ c + 14) : chJ I c e s r m x = I x := by
  unfold chJ chM
  split
  · rw [up_ne h, up_ne h]
  · rw [up_ne h, up_ne h]
theorem CI_chJ {I : II} {c e s r : Nat} {m : Int} (h : CI I c e) (hsp : e + 31 ≤ c) (hr : r < 9) : CI (chJ I c e s r m) c e := by
  unfold chJ chM
  have h9 := chT_rng (F := fun k => I (c + 1 + 4 + k)) (nc := (I e 0).toNat) (s := s) (tr := I (e + 1) 2) (m := m) hr r (Nat.le_refl r)
  have h8 : chq I c e s r m = chT (fun k => I (c + 1 + 4 + k)) (I e 0).toNat (I (e + 1) 2) r m s r := rfl
  rw [← h8] at h9
  split
  · exact CI_far (CI_far h hsp (by omega) (by omega) (by omega) (by omega) (by omega)) hsp (by omega) (by omega) (by omega) (by omega) (by omega)
  · exact CI_far (CI_far h hsp (by omega) (by omega) (by omega) (by omega) (by omega)) hsp (by omega) (by omega) (by omega) (by omega) (by omega)

set_option maxRecDepth 100000 in
set_option maxHeartbeats 4000000 in
theorem c_choose2 {l : Launch} {g : GV} {S : SS} {I : II} {X : XX} {c e s r : Nat} {m : Int} (hfl : l.stackTraces = false) (hC : isCnt S c e) (hI : CI I c e) (hs : s < 256) (hr9 : r < 9) (hm : m = 0 ∨ m = 1) : CE l g mX0_choose 1 [.ref (c + 14), .int (ii (s : Int)), .int (ii (r : Int)), .int (ii m)] S I X (some (.int (ii (chV I c e s r m)))) (chJ I c e s r m) := by
  obtain ⟨⟨w0, w1, w2, w3, w4, w5, w6, w7, w8, w9, w10, w11, w12, w13, w14⟩, g2, g3, g4, g5, g6, g7⟩ := hI
  exact c_choose hfl hC hs hr9 (n := (I e 0).toNat) (by omega) (by omega) hm (fun k _ i _ => g2 _ _) w9 w12

def elI2 (I : II) (c q r : Nat) (rs : Int) : II := up (up (up (if I (c + 1) 1 < 8 then up (up I (c + 1 + 1) (I (c + 1) 1).toNat (q : Int)) (c + 1) 1 (I (c + 1) 1 + 1) else I) (c + 1 + 2) q 1) (c + 15 + 1) q (r : Int)) (c + 15 + 2) q rs
def elM (I : II) (c q r : Nat) (rs : Int) : II := up (up (up (elI2 I c q r rs) (c + 19 + 7) r ((I (c + 19 + 7) r).toNat ||| 2 ^ q : Nat)) c 10 (clr (I c 10).toNat q)) c 11 ((I c 11).toNat ||| 2 ^ q : Nat)

set_option maxRecDepth 100000 in
set_option maxHeartbeats 4000000 in
theorem c_elect2 {l : Launch} {g : GV} {S : SS} {I : II} {X : XX} {c e q r : Nat} {rs : Int} (hfl : l.stackTraces = false) (hC : isCnt S c e) (hI : CI I c e) (hq : q < 8) (hr : r < 9) : CE l g mX1_elect 0 [.ref c, .int (ii (q : Int)), .int (ii (r : Int)), .int (ii rs)] S I X none (elM I c q r rs) := by
  obtain ⟨n0, n1, n2, n3, n4, n5, n6, n6a, n7, n7a, n8, n8a, n9, n9a, n10, n10a, hR, hH, hF, hG, hE, hsp⟩ := id hC
  obtain ⟨r0, r1, r1a, r2, r2a, r3, r3a, rr⟩ := id hR
  obtain ⟨k0, k1, k2⟩ := id hH
  obtain ⟨f0, f1, f1a, f2, f2a, f3, f3a⟩ := id hF
  obtain ⟨l0, ⟨l1, l1a⟩, ⟨l2, l2a⟩, ⟨l3, l3a⟩, ⟨l4, l4a⟩, ⟨l5, l5a⟩, ⟨l6, l6a⟩, ⟨l7, l7a⟩, ⟨l8, l8a⟩, lr, ⟨l9, l9a⟩, lw⟩ := id hG
  obtain ⟨y0, y1, y1a, y2, y2a, y3, y3a, y4, y4a, y5, y5a, yr⟩ := id hE
  obtain ⟨g1, g2, g3, g4, g5, g6, g7⟩ := hI
  obtain ⟨ec, hec⟩ := Int.eq_ofNat_of_zero_le g5.1
  obtain ⟨h, hh⟩ := Int.eq_ofNat_of_zero_le g3.1
  obtain ⟨u, hu⟩ := Int.eq_ofNat_of_zero_le g4.1
  have g7r := g7 r
  obtain ⟨ne, hne⟩ := Int.eq_ofNat_of_zero_le g7r.1
  have hh8 : h < 256 := by omega
  have hu8 : u < 256 := by omega
  have hne8 : ne < 256 := by omega
  have L : ∀ K : II, (∀ x, x ≠ c + 1 → x ≠ c + 1 + 1 → K x = I x) → (if I (c + 1) 1 < 8 then up (up I (c + 1 + 1) (I (c + 1) 1).toNat (q : Int)) (c + 1) 1 (I (c + 1) 1 + 1) else I) = K → V l g mX1_elect 0 (Zm g (QE none S (elM I c q r rs) X)) 0 0 41 [some (.ref c), some (.int (ii (q : Int))), some (.int (ii (r : Int))), some (.int (ii rs))] [] S K X := by
    intro K hK hKe
    refine v_aload_n dX1_elect_41 rfl ?_
    refine v_getr dX1_elect_42 fr_X1_18 (by assumption) (by decide) rfl (by assumption) ?_
    refine v_getr dX1_elect_45 fr_X1_107 (by assumption) (by decide) rfl (by assumption) ?_
    refine v_iload_n dX1_elect_48 rfl ?_
    refine v_iconst dX1_elect_49 ?_
    refine v_iast (j := q) dX1_elect_50 (by assumption) (by first | rfl | omega) (by omega) ?_
    refine v_aload_n dX1_elect_51 rfl ?_
    refine v_getr dX1_elect_52 fr_X1_34 (by assumption) (by decide) rfl (by assumption) ?_
    refine v_getr dX1_elect_55 fr_X1_110 (by assumption) (by decide) rfl (by assumption) ?_
    refine v_iload_n dX1_elect_58 rfl ?_
    refine v_iload_n dX1_elect_59 rfl ?_
    refine v_iast (j := q) dX1_elect_60 (by assumption) (by first | rfl | omega) (by omega) ?_
    refine v_aload_n dX1_elect_61 rfl ?_
    refine v_getr dX1_elect_62 fr_X1_34 (by assumption) (by decide) rfl (by assumption) ?_
    refine v_getr dX1_elect_65 fr_X1_113 (by assumption) (by decide) rfl (by assumption) ?_
    refine v_iload_n dX1_elect_68 rfl ?_
    refine v_iload_n dX1_elect_69 rfl ?_
    refine v_iast (j := q) dX1_elect_70 (by assumption) (by first | rfl | omega) (by omega) ?_
    refine v_aload_n dX1_elect_71 rfl ?_
    refine v_getr dX1_elect_72 fr_X1_41 (by assumption) (by decide) rfl (by assumption) ?_
    refine v_getr dX1_elect_75 fr_X1_160 (by assumption) (by decide) rfl (by assumption) ?_
    refine v_iload_n dX1_elect_78 rfl ?_
    refine v_dup2 dX1_elect_79 rfl rfl ?_
    refine v_iald (j := r) dX1_elect_80 (by assumption) rfl (by omega) ?_
    rw [up_ne (by omega), up_ne (by omega), up_ne (by omega), hK _ (by omega) (by omega), hne]
    refine v_iconst dX1_elect_81 ?_
    refine v_iload_n dX1_elect_82 rfl ?_
    refine v_ishl (z := ((2 ^ q : Nat) : Int)) dX1_elect_83 (shl_b q hq) ?_
    refine v_ior (z := ((ne ||| 2 ^ q : Nat) : Int)) dX1_elect_84 (or_b ne hne8 q hq) ?_
    refine v_iast (j := r) dX1_elect_85 (by assumption) (by first | rfl | omega) (by omega) ?_
    refine v_aload_n dX1_elect_86 rfl ?_
    refine v_dup dX1_elect_87 rfl ?_
    refine v_geti dX1_elect_88 fr_X1_86 (by assumption) (by decide) rfl ?_
    rw [up_ne (by omega), up_ne (by omega), up_ne (by omega), up_ne (by omega), hK _ (by omega) (by omega), hh]
    refine v_iconst dX1_elect_91 ?_
    refine v_iload_n dX1_elect_92 rfl ?_
    refine v_ishl (z := ((2 ^ q : Nat) : Int)) dX1_elect_93 (shl_b q hq) ?_
    refine v_iconst dX1_elect_94 ?_
    refine v_ixor dX1_elect_95 (ii_of _).symm ?_
    refine v_iand (z := ((clr h q : Nat) : Int)) dX1_elect_96 (by rw [ii_of]; exact clr_b h hh8 q hq) ?_
    refine v_puti dX1_elect_97 fr_X1_86 (by assumption) (by decide) rfl ?_
    refine v_aload_n dX1_elect_100 rfl ?_
    refine v_dup dX1_elect_101 rfl ?_
    refine v_geti dX1_elect_102 fr_X1_89 (by assumption) (by decide) rfl ?_
    rw [up_nk (by omega), up_ne (by omega), up_ne (by omega), up_ne (by omega), up_ne (by omega), hK _ (by omega) (by omega), hu]
    refine v_iconst dX1_elect_105 ?_
    refine v_iload_n dX1_elect_106 rfl ?_
    refine v_ishl (z := ((2 ^ q : Nat) : Int)) dX1_elect_107 (shl_b q hq) ?_
    refine v_ior (z := ((u ||| 2 ^ q : Nat) : Int)) dX1_elect_108 (or_b u hu8 q hq) ?_
    refine v_puti dX1_elect_109 fr_X1_89 (by assumption) (by decide) rfl ?_
    exact v_vE dX1_elect_112 rfl (by unfold elM elI2; rw [hne, hh, hu, hKe]; rfl)
  refine v_startE hfl rfl (by decide) (Nat.le_of_ble_eq_true rfl) (ls := [some (.ref c), some (.int (ii (q : Int))), some (.int (ii (r : Int))), some (.int (ii rs))]) rfl ?_
  refine v_aload_n dX1_elect_0 rfl ?_
  refine v_getr dX1_elect_1 fr_X1_18 (by assumption) (by decide) rfl (by assumption) ?_
  refine v_geti dX1_elect_4 fr_X1_92 (by assumption) (by decide) rfl ?_
  refine v_bipush dX1_elect_7 (by decide) ?_
  refine v_ic_ge (tgt := 41) dX1_elect_9 (by decide) (fun h9 => ?_) (fun h9 => ?_)
  · exact L I (fun x _ _ => rfl) (if_neg (by omega))
  · refine v_aload_n dX1_elect_12 rfl ?_
    refine v_getr dX1_elect_13 fr_X1_18 (by assumption) (by decide) rfl (by assumption) ?_
    refine v_getr dX1_elect_16 fr_X1_206 (by assumption) (by decide) rfl (by assumption) ?_
    refine v_aload_n dX1_elect_19 rfl ?_
    refine v_getr dX1_elect_20 fr_X1_18 (by assumption) (by decide) rfl (by assumption) ?_
    refine v_geti dX1_elect_23 fr_X1_92 (by assumption) (by decide) rfl ?_
    refine v_iload_n dX1_elect_26 rfl ?_
    refine v_iast (j := ec) dX1_elect_27 (by assumption) (hec) (by omega) ?_
    refine v_aload_n dX1_elect_28 rfl ?_
    refine v_getr dX1_elect_29 fr_X1_18 (by assumption) (by decide) rfl (by assumption) ?_
    refine v_dup dX1_elect_32 rfl ?_
    refine v_geti dX1_elect_33 fr_X1_92 (by assumption) (by decide) rfl ?_
    rw [up_ne (by omega)]
    refine v_iconst dX1_elect_36 ?_
    refine v_iadd dX1_elect_37 ?_
    refine v_puti dX1_elect_38 fr_X1_92 (by assumption) (by decide) rfl ?_
    exact L _ (fun x h1 h2 => by rw [up_ne (by omega), up_ne (by omega)]) (by rw [if_pos (by omega), hec]; rfl)

theorem CI_el {I : II} {c e q r : Nat} {rs : Int} (h : CI I c e) (hsp : e + 31 ≤ c) (hq : q < 8) (hr : r < 9) (hrs : -2147483648 ≤ rs ∧ rs < 2147483648) : CI (elM I c q r rs) c e := by
  have g := h
  obtain ⟨g1, g2, g3, g4, g5, g6, g7⟩ := g
  have g7r := g7 r
  have o1 := or_lt (I (c + 19 + 7) r).toNat (by omega) q hq
  have o2 := or_lt (I c 11).toNat (by omega) q hq
  have o3 := clr_lt (I c 10).toNat (by omega) q hq
  have h0 : CI (if I (c + 1) 1 < 8 then up (up I (c + 1 + 1) (I (c + 1) 1).toNat (q : Int)) (c + 1) 1 (I (c + 1) 1 + 1) else I) c e := by
    split
    · exact CI_up (CI_far h hsp (by omega) (by omega) (by omega) (by omega) (by omega)) (by omega) (Or.inr (by omega)) hsp (fun q => by omega) (fun _ _ => by omega) (fun q => by omega) (fun q => by omega)
    · exact h
  unfold elM elI2
  generalize (if I (c + 1) 1 < 8 then up (up I (c + 1 + 1) (I (c + 1) 1).toNat (q : Int)) (c + 1) 1 (I (c + 1) 1 + 1) else I) = K at h0 ⊢
  generalize (I (c + 19 + 7) r).toNat ||| 2 ^ q = a1 at o1 ⊢
  generalize (I c 11).toNat ||| 2 ^ q = a2 at o2 ⊢
  generalize clr (I c 10).toNat q = a3 at o3 ⊢
  refine CI_up (CI_up (CI_up ?_ (by omega) (Or.inr (by omega)) hsp (fun q => by omega) (fun q => by omega) (fun q => by omega) (fun _ => by omega)) (by omega) (Or.inr (by omega)) hsp (fun _ _ => by omega) (fun q => by omega) (fun q => by omega) (fun q => by omega)) (by omega) (Or.inr (by omega)) hsp (fun _ _ => by omega) (fun q => by omega) (fun q => by omega) (fun q => by omega)
  exact CI_far (CI_far (CI_far h0 hsp (by omega) (by omega) (by omega) (by omega) (by omega)) hsp (by omega) (by omega) (by omega) (by omega) (by omega)) hsp hrs (by omega) (by omega) (by omega) (by omega)
/-- seats for those with the quota -/
def ewM (c e r : Nat) : Nat → II → II
  | 0, I => I
  | k + 1, I => if chV I c e (I c 10).toNat r 1 = -1 then chJ I c e (I c 10).toNat r 1 else if I (c + 47) (chV I c e (I c 10).toNat r 1).toNat < I c 13 then chJ I c e (I c 10).toNat r 1 else ewM c e r k (elM (chJ I c e (I c 10).toNat r 1) c (chV I c e (I c 10).toNat r 1).toNat r 1)
/-- seats for all that are hopeful -/
def eaM (c e r : Nat) : Nat → II → II
  | 0, I => I
  | k + 1, I => if I c 10 = 0 then I else if chV I c e (I c 10).toNat r 1 = -1 then eaM c e r k (chJ I c e (I c 10).toNat r 1) else eaM c e r k (elM (chJ I c e (I c 10).toNat r 1) c (chV I c e (I c 10).toNat r 1).toNat r 2)

set_option maxRecDepth 100000 in
set_option maxHeartbeats 4000000 in
theorem c_electWithQuota {l : Launch} {g : GV} {S : SS} {I : II} {X : XX} {c e r : Nat} {fr : Int} (hfl : l.stackTraces = false) (hC : isCnt S c e) (hI0 : CI I c e) (hr : r < 9) (hfr : -100 ≤ fr ∧ fr ≤ 100) : CE l g mX1_electWithQuota 2 [.ref c, .int (ii (r : Int)), .int (ii fr)] S I X none (ewM c e r fr.toNat I) := by
  obtain ⟨n0, n1, n2, n3, n4, n5, n6, n6a, n7, n7a, n8, n8a, n9, n9a, n10, n10a, hR, hH, hF, hG, hE, hsp⟩ := id hC
  obtain ⟨r0, r1, r1a, r2, r2a, r3, r3a, rr⟩ := id hR
  obtain ⟨k0, k1, k2⟩ := id hH
  obtain ⟨f0, f1, f1a, f2, f2a, f3, f3a⟩ := id hF
  obtain ⟨l0, ⟨l1, l1a⟩, ⟨l2, l2a⟩, ⟨l3, l3a⟩, ⟨l4, l4a⟩, ⟨l5, l5a⟩, ⟨l6, l6a⟩, ⟨l7, l7a⟩, ⟨l8, l8a⟩, lr, ⟨l9, l9a⟩, lw⟩ := id hG
  obtain ⟨y0, y1, y1a, y2, y2a, y3, y3a, y4, y4a, y5, y5a, yr⟩ := id hE
  obtain ⟨n, hn⟩ : ∃ n, fr.toNat = n := ⟨_, rfl⟩
  rw [hn]
  have L : ∀ i : Nat, i ≤ n → ∀ J : II, CI J c e → V l g mX1_electWithQuota 2 (Zm g (QE none S (ewM c e r (n - i) J) X)) 0 0 2 [some (.ref c), some (.int (ii (r : Int))), some (.int (ii fr)), some (.int (ii (i : Int))), none] [] S J X := by
    refine loop_up fun i hi ih => ?_
    intro J hI
    refine v_iload_n dX1_electWithQuota_2 rfl ?_
    refine v_iload_n dX1_electWithQuota_3 rfl ?_
    refine v_ic_ge (tgt := 57) dX1_electWithQuota_4 (by decide) (fun h4 => ?_) (fun h4 => ?_)
    · exact v_vE dX1_electWithQuota_57 rfl (by rw [show n - i = 0 by omega]; rfl)
    · obtain ⟨g1, g2, g3, g4, g5, g6, g7⟩ := id hI
      obtain ⟨h, hh⟩ := Int.eq_ofNat_of_zero_le g3.1
      have ehh : (J c 10).toNat = h := by rw [hh]; rfl
      have hh8 : h < 256 := by omega
      have hV := chV_ok (c := c) (s := h) (r := r) (m := 1) g1
      have ex : ewM c e r (n - i) J = if chV J c e h r 1 = -1 then chJ J c e h r 1 else if J (c + 47) (chV J c e h r 1).toNat < J c 13 then chJ J c e h r 1 else ewM c e r (n - (i + 1)) (elM (chJ J c e h r 1) c (chV J c e h r 1).toNat r 1) := by
        rw [show n - i = (n - (i + 1)) + 1 by omega]
        show (if _ then _ else _) = _
        rw [ehh]
      refine v_aload_n dX1_electWithQuota_7 rfl ?_
      refine v_getr dX1_electWithQuota_8 fr_X1_27 (by assumption) (by decide) rfl (by assumption) ?_
      refine v_aload_n dX1_electWithQuota_11 rfl ?_
      refine v_geti dX1_electWithQuota_12 fr_X1_86 (by assumption) (by decide) rfl ?_
      rw [hh]
      refine v_iload_n dX1_electWithQuota_15 rfl ?_
      refine v_iconst dX1_electWithQuota_16 ?_
      refine v_cV3 dX1_electWithQuota_17 lk_X1_192 (by assumption) (by decide) rfl (c_choose2 hfl hC hI hh8 hr (Or.inr rfl)) (by decide) (Nat.le_of_ble_eq_true rfl) ?_ rfl
      refine v_ist4 dX1_electWithQuota_20 rfl ?_
      refine v_iload dX1_electWithQuota_22 rfl ?_
      refine v_iconst dX1_electWithQuota_24 ?_
      refine v_ic_eq (tgt := 42) dX1_electWithQuota_25 (by decide) (fun h25 => ?_) (fun h25 => ?_)
      · exact v_vE dX1_electWithQuota_42 rfl (by rw [ex]; first | rw [if_pos (by omega)] | rw [if_neg (by omega), if_pos (by rw [Int.toNat_natCast]; omega)])
      · refine v_aload_n dX1_electWithQuota_28 rfl ?_
        refine v_getr dX1_electWithQuota_29 fr_X1_45 (by assumption) (by decide) rfl (by assumption) ?_
        refine v_iload dX1_electWithQuota_32 rfl ?_
        obtain ⟨q, hq⟩ : ∃ q : Nat, chV J c e h r 1 = (q : Int) := Int.eq_ofNat_of_zero_le (by omega)
        rw [hq] at hV ex ⊢
        refine v_iald (j := q) dX1_electWithQuota_34 (by assumption) rfl (by omega) ?_
        rw [chJ_ne (by omega)]
        refine v_aload_n dX1_electWithQuota_35 rfl ?_
        refine v_geti dX1_electWithQuota_36 fr_X1_75 (by assumption) (by decide) rfl ?_
        rw [chJ_ne (by omega)]
        have g8 := g2 (c + 47) q
        have g9 := g2 c 13
        refine v_ic_ge (tgt := 43) dX1_electWithQuota_39 (by decide) (fun h39 => ?_) (fun h39 => ?_)
        · refine v_aload_n dX1_electWithQuota_43 rfl ?_
          refine v_iload dX1_electWithQuota_44 rfl ?_
          refine v_iload_n dX1_electWithQuota_46 rfl ?_
          refine v_iconst dX1_electWithQuota_47 ?_
          refine v_cV3n dX1_electWithQuota_48 lk_X1_202 (by assumption) (by decide) rfl (c_elect2 hfl hC (CI_chJ hI hsp hr) (by omega) hr) (by decide) (Nat.le_of_ble_eq_true rfl) ?_ rfl
          refine v_iinc3 dX1_electWithQuota_51 rfl ?_
          refine v_goto (tgt := 2) dX1_electWithQuota_54 (by decide) ?_
          rw [ex, if_neg (by omega), if_neg (by rw [Int.toNat_natCast]; omega), Int.toNat_natCast]
          exact v_fgt2 (ih (i + 1) (by omega) (by omega) _ (CI_el (CI_chJ hI hsp hr) hsp (by omega) hr (by omega))) (fgt_c (Or.inr rfl) (fgt_c (Or.inr rfl) (fgt_c (Or.inr rfl) (fgt_c (Or.inr rfl) (fgt_c (Or.inl rfl) (fgt_n))))))
        · exact v_vE dX1_electWithQuota_42 rfl (by rw [ex]; first | rw [if_pos (by omega)] | rw [if_neg (by omega), if_pos (by rw [Int.toNat_natCast]; omega)])
  refine v_startE hfl rfl (by decide) (Nat.le_of_ble_eq_true rfl) (ls := [some (.ref c), some (.int (ii (r : Int))), some (.int (ii fr)), none, none]) rfl ?_
  refine v_iconst dX1_electWithQuota_0 ?_
  refine v_istn3 dX1_electWithQuota_1 rfl ?_
  exact L 0 (Nat.zero_le _) I hI0

set_option maxRecDepth 100000 in
set_option maxHeartbeats 4000000 in
theorem c_electAllHopeful {l : Launch} {g : GV} {S : SS} {I : II} {X : XX} {c e r : Nat} (hfl : l.stackTraces = false) (hC : isCnt S c e) (hI0 : CI I c e) (hr : r < 9) : CE l g mX1_electAllHopeful 2 [.ref c, .int (ii (r : Int))] S I X none (eaM c e r 8 I) := by
  obtain ⟨n0, n1, n2, n3, n4, n5, n6, n6a, n7, n7a, n8, n8a, n9, n9a, n10, n10a, hR, hH, hF, hG, hE, hsp⟩ := id hC
  obtain ⟨r0, r1, r1a, r2, r2a, r3, r3a, rr⟩ := id hR
  obtain ⟨k0, k1, k2⟩ := id hH
  obtain ⟨f0, f1, f1a, f2, f2a, f3, f3a⟩ := id hF
  obtain ⟨l0, ⟨l1, l1a⟩, ⟨l2, l2a⟩, ⟨l3, l3a⟩, ⟨l4, l4a⟩, ⟨l5, l5a⟩, ⟨l6, l6a⟩, ⟨l7, l7a⟩, ⟨l8, l8a⟩, lr, ⟨l9, l9a⟩, lw⟩ := id hG
  obtain ⟨y0, y1, y1a, y2, y2a, y3, y3a, y4, y4a, y5, y5a, yr⟩ := id hE
  have L : ∀ i : Nat, i ≤ 8 → ∀ J : II, CI J c e → V l g mX1_electAllHopeful 2 (Zm g (QE none S (eaM c e r (8 - i) J) X)) 0 0 2 [some (.ref c), some (.int (ii (r : Int))), some (.int (ii (i : Int))), none] [] S J X := by
    refine loop_up fun i hi ih => ?_
    intro J hI
    refine v_iload_n dX1_electAllHopeful_2 rfl ?_
    refine v_bipush dX1_electAllHopeful_3 (by decide) ?_
    refine v_ic_ge (tgt := 47) dX1_electAllHopeful_5 (by decide) (fun h5 => ?_) (fun h5 => ?_)
    · exact v_vE dX1_electAllHopeful_47 rfl (by first | rw [show 8 - i = 0 by omega]; rfl | rw [ex, if_pos (by omega)])
    · obtain ⟨g1, g2, g3, g4, g5, g6, g7⟩ := id hI
      obtain ⟨h, hh⟩ := Int.eq_ofNat_of_zero_le g3.1
      have ehh : (J c 10).toNat = h := by rw [hh]; rfl
      have hh8 : h < 256 := by omega
      have hV := chV_ok (c := c) (s := h) (r := r) (m := 1) g1
      have ex : eaM c e r (8 - i) J = if J c 10 = 0 then J else if chV J c e h r 1 = -1 then eaM c e r (8 - (i + 1)) (chJ J c e h r 1) else eaM c e r (8 - (i + 1)) (elM (chJ J c e h r 1) c (chV J c e h r 1).toNat r 2) := by
        rw [show 8 - i = (8 - (i + 1)) + 1 by omega]
        show (if _ then _ else _) = _
        rw [ehh]
      refine v_aload_n dX1_electAllHopeful_8 rfl ?_
      refine v_geti dX1_electAllHopeful_9 fr_X1_86 (by assumption) (by decide) rfl ?_
      refine v_if_eq (tgt := 47) dX1_electAllHopeful_12 (by decide) (fun h12 => ?_) (fun h12 => ?_)
      · exact v_vE dX1_electAllHopeful_47 rfl (by first | rw [show 8 - i = 0 by omega]; rfl | rw [ex, if_pos (by omega)])
      · refine v_aload_n dX1_electAllHopeful_15 rfl ?_
        refine v_getr dX1_electAllHopeful_16 fr_X1_27 (by assumption) (by decide) rfl (by assumption) ?_
        refine v_aload_n dX1_electAllHopeful_19 rfl ?_
        refine v_geti dX1_electAllHopeful_20 fr_X1_86 (by assumption) (by decide) rfl ?_
        rw [hh]
        refine v_iload_n dX1_electAllHopeful_23 rfl ?_
        refine v_iconst dX1_electAllHopeful_24 ?_
        refine v_cV3 dX1_electAllHopeful_25 lk_X1_192 (by assumption) (by decide) rfl (c_choose2 hfl hC hI hh8 hr (Or.inr rfl)) (by decide) (Nat.le_of_ble_eq_true rfl) ?_ rfl
        refine v_istn3 dX1_electAllHopeful_28 rfl ?_
        refine v_iload_n dX1_electAllHopeful_29 rfl ?_
        refine v_iconst dX1_electAllHopeful_30 ?_
        refine v_ic_eq (tgt := 41) dX1_electAllHopeful_31 (by decide) (fun h31 => ?_) (fun h31 => ?_)
        · refine v_iinc2 dX1_electAllHopeful_41 rfl ?_
          refine v_goto (tgt := 2) dX1_electAllHopeful_44 (by decide) ?_
          first
            | (rw [ex, if_neg (by omega), if_pos (by omega)]; exact v_fgt2 (ih (i + 1) (by omega) (by omega) _ (CI_chJ hI hsp hr)) (fgt_c (Or.inr rfl) (fgt_c (Or.inr rfl) (fgt_c (Or.inr rfl) (fgt_c (Or.inl rfl) (fgt_n))))))
            | (rw [ex, if_neg (by omega), if_neg (by omega), Int.toNat_natCast]; exact v_fgt2 (ih (i + 1) (by omega) (by omega) _ (CI_el (CI_chJ hI hsp hr) hsp (by omega) hr (by omega))) (fgt_c (Or.inr rfl) (fgt_c (Or.inr rfl) (fgt_c (Or.inr rfl) (fgt_c (Or.inl rfl) (fgt_n))))))
        · obtain ⟨q, hq⟩ : ∃ q : Nat, chV J c e h r 1 = (q : Int) := Int.eq_ofNat_of_zero_le (by omega)
          rw [hq] at hV ex ⊢
          refine v_aload_n dX1_electAllHopeful_34 rfl ?_
          refine v_iload_n dX1_electAllHopeful_35 rfl ?_
          refine v_iload_n dX1_electAllHopeful_36 rfl ?_
          refine v_iconst dX1_electAllHopeful_37 ?_
          refine v_cV3n dX1_electAllHopeful_38 lk_X1_202 (by assumption) (by decide) rfl (c_elect2 hfl hC (CI_chJ hI hsp hr) (by omega) hr) (by decide) (Nat.le_of_ble_eq_true rfl) ?_ rfl
          refine v_iinc2 dX1_electAllHopeful_41 rfl ?_
          refine v_goto (tgt := 2) dX1_electAllHopeful_44 (by decide) ?_
          first
            | (rw [ex, if_neg (by omega), if_pos (by omega)]; exact v_fgt2 (ih (i + 1) (by omega) (by omega) _ (CI_chJ hI hsp hr)) (fgt_c (Or.inr rfl) (fgt_c (Or.inr rfl) (fgt_c (Or.inr rfl) (fgt_c (Or.inl rfl) (fgt_n))))))
            | (rw [ex, if_neg (by omega), if_neg (by omega), Int.toNat_natCast]; exact v_fgt2 (ih (i + 1) (by omega) (by omega) _ (CI_el (CI_chJ hI hsp hr) hsp (by omega) hr (by omega))) (fgt_c (Or.inr rfl) (fgt_c (Or.inr rfl) (fgt_c (Or.inr rfl) (fgt_c (Or.inl rfl) (fgt_n))))))
  refine v_startE hfl rfl (by decide) (Nat.le_of_ble_eq_true rfl) (ls := [some (.ref c), some (.int (ii (r : Int))), none, none]) rfl ?_
  refine v_iconst dX1_electAllHopeful_0 ?_
  refine v_istn2 dX1_electAllHopeful_1 rfl ?_
  exact L 0 (Nat.zero_le _) I hI0
