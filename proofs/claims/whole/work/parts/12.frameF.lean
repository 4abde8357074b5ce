/-! THE FRAME, F: throws, catches, what is made -/
def THo (own : String) (ik is ic : Nat) (cls text : String) (names : List String) : Prop :=
  (∀ w ∈ vx_atS own ic cls names, w ∈ lw_good ∨ (w ∈ lw_tbl ∧ lw_nb w = true ∧ w.onTables = true)) ∧ Cond.classLink own ik cls ∈ lw_good ∧ Cond.initialized cls ∈ lw_good ∧ Cond.stringRef own is text ∈ lw_tbl ∧ Bundle.fit cls = true ∧ (∀ n ∈ names, Bundle.fit n = true) ∧
  (∀ w ∈ Cond.classLink own ik cls :: Cond.initialized cls :: vx_atS own ic cls names, vx_ot w = true) ∧ names.length = 2
def thw (w : Cond) : Bool := (decide (w ∈ lw_tbl) && goodWord w) || (decide (w ∈ lw_tbl) && lw_nb w && w.onTables)
theorem thw_of {w : Cond} (h : thw w = true) : w ∈ lw_good ∨ (w ∈ lw_tbl ∧ lw_nb w = true ∧ w.onTables = true) := by
  unfold thw at h
  simp only [Bool.or_eq_true, Bool.and_eq_true, decide_eq_true_eq] at h
  rcases h with ⟨h1, h2⟩ | ⟨⟨h1, h2⟩, h3⟩
  · exact Or.inl (List.mem_filter.mpr ⟨h1, h2⟩)
  · exact Or.inr ⟨h1, h2, h3⟩
section FF
variable {l : Launch} {g : GV} {mt : MT} {dp bc bs pc pc2 : Nat} {Z : ZZ} {ls : List (Option Value)} {st : List Value} {S : SS} {I : II} {X : XX} {Q : QQ}
theorem v_throw {ik is ic p0 p1 p2 p3 p4 : Nat} {cls text : String} {names : List String} (hT : THo (mOwn mt) ik is ic cls text names) (hm : mHh mt = []) (d0 : DC (mCc mt) pc (.new ik) 3 p0) (d3 : DC (mCc mt) p0 .dup 1 p1) (d4 : DC (mCc mt) p1 (.ldc is) 2 p2 ∨ DC (mCc mt) p1 (.ldc_w is) 3 p2) (d6 : DC (mCc mt) p2 (.invokespecial ic) 3 p3) (d9 : DC (mCc mt) p3 .athrow 1 p4)
    (hdp : 6 ≤ dp) (hst : (st.map fun v => v.category).sum ≤ 8) (hbc : 1 ≤ bc) (hbs : 6 ≤ bs) (hq : Q (.inr cls) (S.1, S.2.1, false) I X) : V l g mt dp (Zm g Q) bc bs pc ls st S I X := by
  obtain ⟨t1, t2, t3, t4, t5, t6, t7, t8⟩ := hT
  intro p e s m args below meth c H locs cells slots R lsA hv
  obtain ⟨b1, b2, b3⟩ := hv.2.2.1
  obtain ⟨r1, r2⟩ := hv.2.1
  obtain ⟨k1, k2, k3, k4, k5, k6, k7, k8, k9⟩ := hv.1.2.2.2.2.2.2.2.2.2.2
  obtain ⟨sa, hsa⟩ := k8 _ _ _ t4
  have hat : ∀ w ∈ vx_atS (mOwn mt) ic cls names, w.before args s = true := fun w hw => by
    rcases t1 w hw with h | ⟨h1, h2, h3⟩
    · exact hv.1.2.2.2.2.2.1 w h
    · exact va_Nw.use h3 (k7 w h1 h2)
  have hout : ∀ z : Nat, ∀ x ∈ c.exceptionTable.toList, covers x z = false := fun z x hx => by
    rw [hv.1.2.2.2.2.2.2.2.1, hm] at hx
    cases hx
  have hcs : ((st.map (tv g)).map fun v => v.category).sum + (13 * (names.length + 1) + 43) ≤ R.locals := by
    rw [cat_sum, t8]
    omega
  have hxq : ∀ t : State, s.vm.Alike t.vm → H.size ≤ t.heap.size → (∀ q : Nat, q < H.size → t.heap[q]? = H[q]?) → QX g Q cls s t := fun t _ hz hk =>
    ⟨(S.1, S.2.1, false), I, X, hq, ⟨hv.2.2.2.1.1.kept (fun k x hx => hk x.1 ((hv.2.2.2.1.1 k x hx).lt)), hv.2.2.2.1.2⟩, Nat.le_trans hv.2.2.2.2.1.1 hz, fun q h1 h2 => (hk q (Nat.lt_of_lt_of_le h1 hv.2.2.2.2.1.1)).trans (hv.2.2.2.2.1.2.1 q h1 h2)⟩
  have fr : names.length + 3 < R.frames := by omega
  rcases d4 with d4 | d4
  · obtain ⟨d0, rfl⟩ := d0
    obtain ⟨d3, rfl⟩ := d3
    obtain ⟨d4, rfl⟩ := d4
    obtain ⟨d6, rfl⟩ := d6
    exact vx_throwS hv.1.1 hv.1.2.1 hv.1.2.2.2.2.2.2.2.2.2.1 hv.1.2.2.2.2.1 t5 t6 (hv.1.2.2.2.2.2.1 _ t2) (hv.1.2.2.2.2.2.1 _ t3) hsa hat t7 k5 k6 hv.2.2.2.2.1 (hv.2.2.2.2.2.1.trans hv.1.2.2.2.1.symm) d0 d3 d4 d6 d9.1 (hout _) fr hcs (by omega) (by omega) hv.1.2.2.2.2.2.2.1 hxq hv.2.2.2.2.1.2.2 (by omega) (by omega)
  · obtain ⟨d0, rfl⟩ := d0
    obtain ⟨d3, rfl⟩ := d3
    obtain ⟨d4, rfl⟩ := d4
    obtain ⟨d6, rfl⟩ := d6
    exact vx_throwSW hv.1.1 hv.1.2.1 hv.1.2.2.2.2.2.2.2.2.2.1 hv.1.2.2.2.2.1 t5 t6 (hv.1.2.2.2.2.2.1 _ t2) (hv.1.2.2.2.2.2.1 _ t3) hsa hat t7 k5 k6 hv.2.2.2.2.1 (hv.2.2.2.2.2.1.trans hv.1.2.2.2.1.symm) d0 d3 d4 d6 d9.1 (hout _) fr hcs (by omega) (by omega) hv.1.2.2.2.2.2.2.1 hxq hv.2.2.2.2.1.2.2 (by omega) (by omega)
/-- the record of what is exact is given up -/
theorem v_slack (k : V l g mt dp Z bc bs pc ls st (S.1, S.2.1, false) I X) : V l g mt dp Z bc bs pc ls st S I X := by
  intro p e s m args below meth c H locs cells slots R lsA hv
  exact k p e s m args below meth c H locs cells slots R lsA ⟨hv.1, hv.2.1, ⟨hv.2.2.1.1, hv.2.2.1.2.1, fun h => by cases h⟩, hv.2.2.2.1, hv.2.2.2.2.1, hv.2.2.2.2.2⟩
/-- a new cell's address -/
theorem fresh_eq {H1 : Heap} {q : Nat} {E : va_E} (hP : va_P g.1 gCl (wld g S I X ++ [(q, E)]) H1) (hD : va_D (gA g) (wld g S I X ++ [(q, E)])) (hn : H1.size ≤ gO g + S.1.length + 1) : q = gO g + S.1.length := by
  have hl : (wld g S I X).length = S.1.length := by unfold wld; rw [List.length_mapIdx]
  have hlast : (wld g S I X ++ [(q, E)])[S.1.length]? = some (q, E) := by rw [List.getElem?_append_right (by omega), hl]; simp
  have h1 := (hP _ _ hlast).lt
  have h2 : gO g ≤ q := hD.2 _ _ hlast
  have h1' : q < H1.size := h1
  rcases Nat.lt_or_ge q (gO g + S.1.length) with h | h
  · exfalso
    obtain ⟨r, hr⟩ : ∃ r, S.1[q - gO g]? = some r := ⟨S.1[q - gO g]'(by omega), List.getElem?_eq_getElem (by omega)⟩
    have h3 : (wld g S I X ++ [(q, E)])[q - gO g]? = some (gO g + (q - gO g), ent g S I X (q - gO g) r) := by
      rw [List.getElem?_append_left (by rw [hl]; omega)]
      exact wld_at hr
    have h4 := hD.1 _ _ _ _ h3 hlast (by show gO g + (q - gO g) = q; omega)
    omega
  · omega
def NWo (own : String) (idx ci N : Nat) : Prop := ∃ (C : String) (T : u_T) (ty : Nat → FieldType), CKo ci C T N ty ∧ Cond.classLink own idx C ∈ lw_good ∧ Cond.instantiable C N ∈ lw_good ∧ Cond.initialized C ∈ lw_good ∧ ∀ j, j < N → defaultValue (ty j) = if rf ci j = true then .null else .int 0
theorem v_new {idx ci N bc2 bs2 : Nat} (hd : DC (mCc mt) pc (.new idx) 3 pc2) (hN : NWo (mOwn mt) idx ci N) (hex : S.2.2 = true) (hI : ∀ j, I S.1.length j = 0) (hP0 : ∀ j, S.2.1 S.1.length j = none) (hlen : S.1.length < 800000) (hbc : bc = 1 + bc2) (hbs : bs = N + bs2)
    (kk : V l g mt dp Z bc2 bs2 pc2 ls (.ref S.1.length :: st) (S.1 ++ [(ci, N)], S.2.1, true) I X) : V l g mt dp Z bc bs pc ls st S I X := by
  obtain ⟨hd1, rfl⟩ := hd
  obtain ⟨C, T0, ty, ⟨c1, c2, c3, c4, c5⟩, h1, h2, h3, h4⟩ := hN
  intro p e s m args below meth c H locs cells slots R lsA hv T hT Xs
  obtain ⟨b1, b2, b3⟩ := hv.2.2.1
  have b4 := b3 hex
  have hA : ∀ q, s.heap.size ≤ q → gA g q := fun q hq => Nat.le_trans hv.1.2.2.2.2.2.2.2.2.2.2.2.2.2.1 hq
  have hfs : ∀ j, j < N → defaultValue (ty j) = vp_V ((List.range N).map (fvl g S I S.1.length ci)) j := fun j hj => by
    rw [h4 j hj]
    unfold vp_V
    rw [List.getD_eq_getElem?_getD, fvl_at hj]
    unfold fvl
    rw [hI j, hP0 j]
    by_cases hr : rf ci j = true
    · rw [if_pos hr, if_pos hr]; rfl
    · rw [if_neg hr, if_neg hr]; rfl
  refine va_new (ci := ci) (fs := (List.range N).map (fvl g S I S.1.length ci)) hv.1.1 hv.1.2.1 hv.1.2.2.2.2.2.1 c2 ty c3 hv.1.2.2.2.2.1 (hv.1.2.2.2.2.2.1 _ h1) (hv.1.2.2.2.2.2.1 _ h2) (hv.1.2.2.2.2.2.1 _ h3) hv.1.2.2.2.2.2.2.2.2.2.2.1 hv.2.2.2.1.1 (wld_D g S I X) hv.2.2.2.2.1 hA c1 hfs (by omega) (by omega) hd1 (fun q H1 hP hD hS => ?_) T hT Xs
  intro T1 hT1 X1
  have hub : H1.size ≤ s.heap.size + (cells + 1) := by rw [← hT1]; exact X1.heapSize
  have hq := fresh_eq hP hD (by omega)
  subst hq
  have hw := wld_push (g := g) (S := S) (S2 := (S.1 ++ [(ci, N)], S.2.1, true)) (I := I) (X := X) (q := (ci, N)) rfl rfl (ent_obj c5)
  rw [hw] at hP
  have e1 : ad g S.1.length = gO g + S.1.length := by
    unfold ad
    rw [if_neg (by omega)]
  rw [← e1]
  exact kk p e s m args below meth c H1 locs (cells + 1) (slots + N) R lsA ⟨hv.1, hv.2.1, ⟨by omega, by omega, fun _ => by show s.heap.size + (cells + 1) = gO g + (S.1 ++ [(ci, N)]).length; rw [List.length_append, List.length_singleton]; omega⟩, ⟨hP, by show (S.1 ++ [(ci, N)]).length < 900000; rw [List.length_append, List.length_singleton]; omega⟩, hS, hv.2.2.2.2.2⟩ T1 hT1 X1
/-- a new row of a tag: what must hold of the tag -/
theorem v_newarr {at9 : ArrayType} {ty : FieldType} {tag t0 n bc2 bs2 : Nat} {z : Int} (hd : DC (mCc mt) pc (.newarray at9) 2 pc2) (hty : newarray.typeOf at9 = ty) (hw0 : Cond.arrayClass ty ∈ lw_good) (ht : (tysG g)[t0]? = some (g.2.1 tag, ty)) (hra : ∀ (U : State) (cA : ClassId), va_RA U cA ty ↔ U.vm.findClass ("[" ++ ty.toString) = some cA) (htg : tag < 900)
    (hent : ∀ cA : ClassId, ∃ a0 : vp_A, ent g S I X S.1.length (tag, n) = .inl (g.2.1 tag, a0) ∧ vp_cell cA a0 = arrV cA n (fun _ => defaultValue ty)) (hz : z = (n : Int)) (hn : n ≤ 1000000) (hcb : componentBytes ty ≤ 8) (hex : S.2.2 = true) (hlen : S.1.length < 800000) (hbc : bc = 1 + bc2) (hbs : bs = n + bs2)
    (kk : V l g mt dp Z bc2 bs2 pc2 ls (.ref S.1.length :: st) (S.1 ++ [(tag, n)], S.2.1, true) I X) : V l g mt dp Z bc bs pc ls (.int (ii z) :: st) S I X := by
  obtain ⟨hd1, rfl⟩ := hd
  subst hty
  intro p e s m args below meth c H locs cells slots R lsA hv T hT Xs
  obtain ⟨b1, b2, b3⟩ := hv.2.2.1
  have b4 := b3 hex
  have hho : gO g ≤ H.size := Nat.le_trans hv.1.2.2.2.2.2.2.2.2.2.2.2.2.2.1 hv.2.2.2.2.1.1
  have hub : H.size ≤ s.heap.size + cells := by rw [← hT]; exact Xs.heapSize
  have hlb := Sim_size hv.2.2.2.1 hho
  have hsz : H.size = gO g + S.1.length := by omega
  have hn0 : ¬ ii z < 0 := fun q => by
    rw [ii_0, ii_lt (by omega) (by omega)] at q
    omega
  refine va_newaK (g := F0 m pc lsA (.int (ii z) :: st.map (tv g))) (rest := st.map (tv g)) (N := n) hv.1.1 hv.1.2.1 (hv.1.2.2.2.2.2.1 _ hw0) rfl hd1 rfl hn0 (ii_ix hz (by omega)) (Nat.le_trans (Nat.mul_le_mul hn hcb) (Nat.le_of_ble_eq_true rfl)) (by omega) (by omega) hsz (fun H1 cA e1 z1 o1 hAr hNm => ?_) T hT Xs
  have hK := hv.1.2.2.2.2.2.2.2.2.2.2.1
  have hc2 : cA = g.2.1 tag := Option.some.inj (hNm.symm.trans ((hra s _).mp (hK.2 t0 _ ht).2))
  rw [hc2] at e1
  obtain ⟨a0, ha1, ha2⟩ := hent (g.2.1 tag)
  have hw := wld_push (g := g) (S := S) (S2 := (S.1 ++ [(tag, n)], S.2.1, true)) (I := I) (X := X) (q := (tag, n)) rfl rfl ha1
  have hP : va_P g.1 gCl (wld g (S.1 ++ [(tag, n)], S.2.1, true) I X) H1 := by
    rw [← hw]
    refine (hv.2.2.2.1.1.kept (fun k x hx => o1 x.1 (by have := (hv.2.2.2.1.1 k x hx).lt; omega))).app (fun k x hx => ?_)
    have hz : k < 1 := (List.getElem?_eq_some_iff.mp hx).1
    rw [show k = 0 by omega] at hx
    cases hx
    show H1[gO g + S.1.length]? = some (vp_cell _ _)
    rw [ha2]
    exact e1
  have e2 : ad g S.1.length = gO g + S.1.length := by
    unfold ad
    rw [if_neg (by omega)]
  rw [← e2]
  exact kk p e s m args below meth c H1 locs (cells + 1) (slots + n) R lsA ⟨hv.1, hv.2.1, ⟨by omega, by omega, fun _ => by show s.heap.size + (cells + 1) = gO g + (S.1 ++ [(tag, n)]).length; rw [List.length_append, List.length_singleton]; omega⟩, ⟨hP, by show (S.1 ++ [(tag, n)]).length < 900000; rw [List.length_append, List.length_singleton]; omega⟩,
    ⟨by have := hv.2.2.2.2.1.1; omega, fun q h1 h2 => by
      have h3 := hv.2.2.2.2.1.1
      exact (o1 q (by omega)).trans (hv.2.2.2.2.1.2.1 q h1 h2), hv.2.2.2.2.1.2.2⟩, hv.2.2.2.2.2⟩
theorem v_newI {n bc2 bs2 : Nat} {z : Int} (hd : DC (mCc mt) pc (.newarray .int) 2 pc2) (hw0 : Cond.arrayClass .int ∈ lw_good) (hI : ∀ j, I S.1.length j = 0) (hz : z = (n : Int)) (hn : n ≤ 1000000) (hex : S.2.2 = true) (hlen : S.1.length < 800000) (hbc : bc = 1 + bc2) (hbs : bs = n + bs2)
    (kk : V l g mt dp Z bc2 bs2 pc2 ls (.ref S.1.length :: st) (S.1 ++ [(20, n)], S.2.1, true) I X) : V l g mt dp Z bc bs pc ls (.int (ii z) :: st) S I X :=
  v_newarr (t0 := 0) hd rfl hw0 rfl (fun _ _ => Iff.rfl) (by decide) (fun cA => ⟨_, ent_int (by decide) (by decide), by rw [vp_cell_i]; simp only [hI]; rfl⟩) hz hn (by decide) hex hlen hbc hbs kk
theorem v_newZ {n bc2 bs2 : Nat} {z : Int} (hd : DC (mCc mt) pc (.newarray .boolean) 2 pc2) (hw0 : Cond.arrayClass .boolean ∈ lw_good) (hI : ∀ j, I S.1.length j = 0) (hz : z = (n : Int)) (hn : n ≤ 1000000) (hex : S.2.2 = true) (hlen : S.1.length < 800000) (hbc : bc = 1 + bc2) (hbs : bs = n + bs2)
    (kk : V l g mt dp Z bc2 bs2 pc2 ls (.ref S.1.length :: st) (S.1 ++ [(21, n)], S.2.1, true) I X) : V l g mt dp Z bc bs pc ls (.int (ii z) :: st) S I X :=
  v_newarr (t0 := 1) hd rfl hw0 rfl (fun _ _ => Iff.rfl) (by decide) (fun cA => ⟨_, ent_int (by decide) (by decide), by rw [vp_cell_i]; simp only [hI]; rfl⟩) hz hn (by decide) hex hlen hbc hbs kk
theorem v_newL {n bc2 bs2 : Nat} {z : Int} (hd : DC (mCc mt) pc (.newarray .long) 2 pc2) (hw0 : Cond.arrayClass .long ∈ lw_good) (hI : ∀ j, X.1 S.1.length j = 0) (hz : z = (n : Int)) (hn : n ≤ 1000000) (hex : S.2.2 = true) (hlen : S.1.length < 800000) (hbc : bc = 1 + bc2) (hbs : bs = n + bs2)
    (kk : V l g mt dp Z bc2 bs2 pc2 ls (.ref S.1.length :: st) (S.1 ++ [(24, n)], S.2.1, true) I X) : V l g mt dp Z bc bs pc ls (.int (ii z) :: st) S I X :=
  v_newarr (t0 := 4) hd rfl hw0 rfl (fun _ _ => Iff.rfl) (by decide) (fun cA => ⟨_, ent_long, by rw [vp_cell_l]; simp only [hI]; rfl⟩) hz hn (by decide) hex hlen hbc hbs kk
theorem v_newD {n bc2 bs2 : Nat} {z : Int} (hd : DC (mCc mt) pc (.newarray .double) 2 pc2) (hw0 : Cond.arrayClass .double ∈ lw_good) (hI : ∀ j, X.2 S.1.length j = 0) (hz : z = (n : Int)) (hn : n ≤ 1000000) (hex : S.2.2 = true) (hlen : S.1.length < 800000) (hbc : bc = 1 + bc2) (hbs : bs = n + bs2)
    (kk : V l g mt dp Z bc2 bs2 pc2 ls (.ref S.1.length :: st) (S.1 ++ [(25, n)], S.2.1, true) I X) : V l g mt dp Z bc bs pc ls (.int (ii z) :: st) S I X :=
  v_newarr (t0 := 5) hd rfl hw0 rfl (fun _ _ => Iff.rfl) (by decide) (fun cA => ⟨_, ent_dbl, by rw [vp_cell_d]; simp only [hI]; rfl⟩) hz hn (by decide) hex hlen hbc hbs kk
end FF
