/-! THE FRAME, D: fields and arrays -/
def CKo (ci : Nat) (C : String) (T : u_T) (N : Nat) (ty : Nat → FieldType) : Prop := gCl[ci]? = some (C, T, N) ∧ (∀ w ∈ u_ws C T N, w ∈ lw_good) ∧ (∀ k, k < N → parseFieldDescriptor (T k).2.2.1 = some (ty k)) ∧ (∀ a, a < N → ∀ b, b < N → a ≠ b → (T a).2.1 ≠ (T b).2.1) ∧ ci < 20
def FRo (own : String) (idx ci k : Nat) (t : FieldType) (fin : Bool) : Prop := ∃ (C : String) (T : u_T) (N : Nat) (ty : Nat → FieldType), CKo ci C T N ty ∧ k < N ∧ (T k).1 = C ∧ (T k).2.2.2 = fin ∧ Cond.fieldLink own idx C (T k).2.1 (T k).2.2.1 ∈ lw_good ∧ ty k = t
theorem ad_in {g : GV} {S : SS} {I : II} {X : XX} {H : Heap} {a : Nat} {q : Nat × Nat} (h : Sim g S I X H) (ha : S.1[a]? = some q) : ad g a = gO g + a := by
  have h1 : a < S.1.length := (List.getElem?_eq_some_iff.mp ha).1
  have h2 := h.2
  unfold ad
  rw [if_neg (by omega)]
theorem ent_obj {g : GV} {S : SS} {I : II} {X : XX} {a ci n : Nat} (h : ci < 20) : ent g S I X a (ci, n) = .inr (ci, (List.range n).map (fvl g S I a ci)) := if_pos h
theorem ent_int {g : GV} {S : SS} {I : II} {X : XX} {a t n : Nat} (h0 : 20 ≤ t) (h : t < 22) : ent g S I X a (t, n) = .inl (g.2.1 t, n, .inl (fun j => ii (I a j))) := by
  unfold ent
  rw [if_neg (by show ¬ t < 20; omega), if_pos (show t < 22 from h)]
theorem ent_ref {g : GV} {S : SS} {I : II} {X : XX} {a t n : Nat} (h0 : 22 ≤ t) (h : t < 24) : ent g S I X a (t, n) = .inl (g.2.1 t, n, .inr (.inr (.inr (.inr (fun j => (S.2.1 a j).map (ad g)))))) := by
  unfold ent
  rw [if_neg (by show ¬ t < 20; omega), if_neg (by show ¬ t < 22; omega), if_pos (show t < 24 from h)]
theorem ent_long {g : GV} {S : SS} {I : II} {X : XX} {a n : Nat} : ent g S I X a (24, n) = .inl (g.2.1 24, n, .inr (.inl (X.1 a))) := by
  unfold ent
  rw [if_neg (show ¬ 24 < 20 by decide), if_neg (show ¬ 24 < 22 by decide), if_neg (show ¬ 24 < 24 by decide), if_pos rfl]
theorem ent_dbl {g : GV} {S : SS} {I : II} {X : XX} {a n : Nat} : ent g S I X a (25, n) = .inl (g.2.1 25, n, .inr (.inr (.inr (.inl (X.2 a))))) := by
  unfold ent
  rw [if_neg (show ¬ 25 < 20 by decide), if_neg (show ¬ 25 < 22 by decide), if_neg (show ¬ 25 < 24 by decide), if_neg (show ¬ 25 = 24 by decide)]
theorem fvl_at {g : GV} {S : SS} {I : II} {a ci n k : Nat} (h : k < n) : ((List.range n).map (fvl g S I a ci))[k]? = some (fvl g S I a ci k) := by
  rw [List.getElem?_map, List.getElem?_range h, Option.map_some]
theorem up_ii {I : II} {a j : Nat} {y : Int} : (fun i => ii (up I a j y a i)) = upd (fun i => ii (I a i)) j (ii y) := by
  funext i
  unfold upd
  rw [up_at]
  by_cases h : i = j <;> simp [h]
/-- one cell's long number set -/
def upL (L : Nat → Nat → Int64) (a k : Nat) (z : Int64) : Nat → Nat → Int64 := fun b => if b = a then vp_updL (L a) k z else L b
def upD (L : Nat → Nat → UInt64) (a k : Nat) (z : UInt64) : Nat → Nat → UInt64 := fun b => if b = a then vf_upd (L a) k z else L b
theorem upL_at {L : Nat → Nat → Int64} {a k : Nat} {z : Int64} : upL L a k z a = vp_updL (L a) k z := if_pos rfl
theorem upD_at {L : Nat → Nat → UInt64} {a k : Nat} {z : UInt64} : upD L a k z a = vf_upd (L a) k z := if_pos rfl
theorem upL_ne {L : Nat → Nat → Int64} {a k b : Nat} {z : Int64} (h : b ≠ a) : upL L a k z b = L b := if_neg h
theorem upD_ne {L : Nat → Nat → UInt64} {a k b : Nat} {z : UInt64} (h : b ≠ a) : upD L a k z b = L b := if_neg h
theorem nI_ii (n : Nat) : Int32.ofNat n = ii (n : Int) := (Int32.ofInt_eq_ofNat).symm
section FD
variable {l : Launch} {g : GV} {mt : MT} {dp bc bs pc pc2 : Nat} {Z : ZZ} {ls : List (Option Value)} {st : List Value} {S : SS} {I : II} {X : XX}
theorem v_get {idx ci k n a : Nat} {t : FieldType} {fin : Bool} {u : Value} (hd : DC (mCc mt) pc (.getfield idx) 3 pc2) (hF : FRo (mOwn mt) idx ci k t fin) (ha : S.1[a]? = some (ci, n)) (hk : k < n) (hu : fvl g S I a ci k = tv g u)
    (kk : V l g mt dp Z bc bs pc2 ls (u :: st) S I X) : V l g mt dp Z bc bs pc ls (.ref a :: st) S I X := by
  obtain ⟨hd1, rfl⟩ := hd
  intro p e s m args below meth c H locs cells slots R lsA hv
  obtain ⟨C, T, N, ty, ⟨c1, c2, c3, c4, c5⟩, h1, h2, h3, h4, h5⟩ := hF
  have hb := wld_at (g := g) (I := I) (X := X) ha
  rw [ent_obj c5] at hb
  have hh := kk p e s m args below meth c H locs cells slots R lsA hv
  have q := va_get (v := tv g u) (rest := st.map (tv g)) hv.1.1 hv.1.2.1 (ref := C) hv.1.2.2.2.2.2.1 c2 hv.1.2.2.2.2.1 hv.1.2.2.2.2.2.2.2.2.2.2.1 hv.2.2.2.1.1 a hb c1 k h1 (hv.1.2.2.2.2.2.1 _ h4) (fun x hx => by rw [h2] at hx; exact hx) (by rw [fvl_at hk, hu]) hd1 hh
  rw [← ad_in hv.2.2.2.1 ha] at q
  exact q
theorem v_geti {idx ci k n a : Nat} {t : FieldType} {fin : Bool} (hd : DC (mCc mt) pc (.getfield idx) 3 pc2) (hF : FRo (mOwn mt) idx ci k t fin) (ha : S.1[a]? = some (ci, n)) (hk : k < n) (hr : rf ci k = false)
    (kk : V l g mt dp Z bc bs pc2 ls (.int (ii (I a k)) :: st) S I X) : V l g mt dp Z bc bs pc ls (.ref a :: st) S I X :=
  v_get hd hF ha hk (by unfold fvl; rw [hr]; rfl) kk
theorem v_getr {idx ci k n a b : Nat} {t : FieldType} {fin : Bool} (hd : DC (mCc mt) pc (.getfield idx) 3 pc2) (hF : FRo (mOwn mt) idx ci k t fin) (ha : S.1[a]? = some (ci, n)) (hk : k < n) (hr : rf ci k = true) (hp : S.2.1 a k = some b)
    (kk : V l g mt dp Z bc bs pc2 ls (.ref b :: st) S I X) : V l g mt dp Z bc bs pc ls (.ref a :: st) S I X :=
  v_get hd hF ha hk (by unfold fvl; rw [hr, hp]; rfl) kk
theorem v_puti {idx ci k n a : Nat} {z : Int} (hd : DC (mCc mt) pc (.putfield idx) 3 pc2) (hF : FRo (mOwn mt) idx ci k .int false) (ha : S.1[a]? = some (ci, n)) (hk : k < n) (hr : rf ci k = false)
    (kk : V l g mt dp Z bc bs pc2 ls st S (up I a k z) X) : V l g mt dp Z bc bs pc ls (.int (ii z) :: .ref a :: st) S I X := by
  obtain ⟨hd1, rfl⟩ := hd
  intro p e s m args below meth c H locs cells slots R lsA hv
  obtain ⟨C, T, N, ty, ⟨c1, c2, c3, c4, c5⟩, h1, h2, h3, h4, h5⟩ := hF
  have hb := wld_at (g := g) (I := I) (X := X) ha
  rw [ent_obj c5] at hb
  have e1 : fvl g S (up I a k z) a ci k = .int (ii z) := by unfold fvl; rw [hr, up_eq]; rfl
  have hw : (wld g S I X).set a (gO g + a, .inr (ci, ((List.range n).map (fvl g S I a ci)).set k (.int (ii z)))) = wld g S (up I a k z) X := by
    rw [← e1, fvl_set (S2 := S) (I2 := up I a k z) (fun j hj => by unfold fvl; rw [up_nk hj])]
    exact wld_set rfl ha (ent_obj c5) (fun j hj r => ent_I rfl (up_ne hj) rfl rfl r)
  have q := va_put (v := .int (ii z)) (ty := .int) (rest := st.map (tv g)) hv.1.1 hv.1.2.1 (ref := C) hv.1.2.2.2.2.2.1 c2 ty c3 c4 hv.1.2.2.2.2.1 hv.1.2.2.2.2.2.2.2.2.2.2.1 hv.2.2.2.1.1 (wld_D g S I X) hv.2.2.2.2.1 a hb c1 k h1 (hv.1.2.2.2.2.2.1 _ h4) (fun x hx => by rw [h2] at hx; exact hx) h3 (by rw [c3 k h1, h5]) rfl rfl (by rw [List.length_map, List.length_range]; exact hk) hd1
    (fun H1 locs1 hP hD hS => kk p e s m args below meth c H1 locs1 cells slots R lsA ⟨hv.1, hv.2.1, hv.2.2.1, ⟨by rw [← hw]; exact hP, hv.2.2.2.1.2⟩, hS, hv.2.2.2.2.2⟩)
  rw [← ad_in hv.2.2.2.1 ha] at q
  exact q
theorem v_putz {idx ci k n a : Nat} {z : Int} (hd : DC (mCc mt) pc (.putfield idx) 3 pc2) (hF : FRo (mOwn mt) idx ci k .boolean false) (ha : S.1[a]? = some (ci, n)) (hk : k < n) (hr : rf ci k = false) (hz : z = 0 ∨ z = 1)
    (kk : V l g mt dp Z bc bs pc2 ls st S (up I a k z) X) : V l g mt dp Z bc bs pc ls (.int (ii z) :: .ref a :: st) S I X := by
  obtain ⟨hd1, rfl⟩ := hd
  intro p e s m args below meth c H locs cells slots R lsA hv
  obtain ⟨C, T, N, ty, ⟨c1, c2, c3, c4, c5⟩, h1, h2, h3, h4, h5⟩ := hF
  have hb := wld_at (g := g) (I := I) (X := X) ha
  rw [ent_obj c5] at hb
  have e1 : fvl g S (up I a k z) a ci k = .int (ii z) := by unfold fvl; rw [hr, up_eq]; rfl
  have hw : (wld g S I X).set a (gO g + a, .inr (ci, ((List.range n).map (fvl g S I a ci)).set k (.int (ii z)))) = wld g S (up I a k z) X := by
    rw [← e1, fvl_set (S2 := S) (I2 := (up I a k z)) (fun j hj => by unfold fvl; rw [up_nk hj])]
    exact wld_set rfl ha (ent_obj c5) (fun j hj r => ent_I rfl (up_ne hj) rfl rfl r)
  have q := va_put (v := .int (ii z)) (ty := .boolean) (rest := st.map (tv g)) hv.1.1 hv.1.2.1 (ref := C) hv.1.2.2.2.2.2.1 c2 ty c3 c4 hv.1.2.2.2.2.1 hv.1.2.2.2.2.2.2.2.2.2.2.1 hv.2.2.2.1.1 (wld_D g S I X) hv.2.2.2.2.1 a hb c1 k h1 (hv.1.2.2.2.2.2.1 _ h4) (fun x hx => by rw [h2] at hx; exact hx) h3 (by rw [c3 k h1, h5]) (by rcases hz with rfl | rfl <;> decide) (by rcases hz with rfl | rfl <;> decide) (by rw [List.length_map, List.length_range]; exact hk) hd1
    (fun H1 locs1 hP hD hS => kk p e s m args below meth c H1 locs1 cells slots R lsA ⟨hv.1, hv.2.1, hv.2.2.1, ⟨by rw [← hw]; exact hP, hv.2.2.2.1.2⟩, hS, hv.2.2.2.2.2⟩)
  rw [← ad_in hv.2.2.2.1 ha] at q
  exact q
theorem v_putF {idx ci k n a : Nat} {b : Nat} {t : FieldType} (hd : DC (mCc mt) pc (.putfield idx) 3 pc2) (hF : FRo (mOwn mt) idx ci k t true) (ha : S.1[a]? = some (ci, n)) (hk : k < n) (hr : rf ci k = true) (hin : mNm mt = "<init>") (hdec : (gCl[ci]?).map (fun q => q.1) = some (mOwn mt)) (ht : narrow t (.ref (ad g b)) = .ref (ad g b) ∧ fits t (.ref (ad g b)) = true)
    (kk : V l g mt dp Z bc bs pc2 ls st (S.1, upP S.2.1 a k (some b), S.2.2) I X) : V l g mt dp Z bc bs pc ls (.ref b :: .ref a :: st) S I X := by
  obtain ⟨hd1, rfl⟩ := hd
  intro p e s m args below meth c H locs cells slots R lsA hv
  obtain ⟨C, T, N, ty, ⟨c1, c2, c3, c4, c5⟩, h1, h2, h3, h4, h5⟩ := hF
  have hb := wld_at (g := g) (I := I) (X := X) ha
  rw [ent_obj c5] at hb
  have e1 : fvl g (S.1, upP S.2.1 a k (some b), S.2.2) I a ci k = .ref (ad g b) := by unfold fvl upP; rw [hr]; simp [va_rf]
  have hw : (wld g S I X).set a (gO g + a, .inr (ci, ((List.range n).map (fvl g S I a ci)).set k (.ref (ad g b)))) = wld g (S.1, upP S.2.1 a k (some b), S.2.2) I X := by
    rw [← e1, fvl_set (S2 := (S.1, upP S.2.1 a k (some b), S.2.2)) (I2 := I) (fun j hj => by unfold fvl; unfold upP; simp [hj])]
    exact wld_set rfl ha (ent_obj c5) (fun j hj r => ent_I (if_neg hj) rfl rfl rfl r)
  have q := va_putF (v := .ref (ad g b)) (ty := t) (rest := st.map (tv g)) hv.1.1 hv.1.2.1 (ref := C) hv.1.2.2.2.2.2.1 c2 ty c3 c4 hv.1.2.2.2.2.1 hv.1.2.2.2.2.2.2.2.2.2.2.1 hv.2.2.2.1.1 (wld_D g S I X) hv.2.2.2.2.1 a hb c1 k h1 (hv.1.2.2.2.2.2.1 _ h4) (fun x hx => by rw [h2] at hx; exact hx) h3 (hv.1.2.2.2.2.2.2.2.2.1.trans hin) (by rw [h2]; rw [c1] at hdec; exact Option.some.inj hdec) (by rw [c3 k h1, h5]) ht.1 ht.2 (by rw [List.length_map, List.length_range]; exact hk) hd1
    (fun H1 locs1 hP hD hS => kk p e s m args below meth c H1 locs1 cells slots R lsA ⟨hv.1, hv.2.1, hv.2.2.1, ⟨by rw [← hw]; exact hP, hv.2.2.2.1.2⟩, hS, hv.2.2.2.2.2⟩)
  rw [← ad_in hv.2.2.2.1 ha] at q
  exact q
theorem v_iald {n a j : Nat} {z : Int} (hd : DC (mCc mt) pc .iaload 1 pc2) (ha : S.1[a]? = some (20, n)) (hz : z = (j : Int)) (hj : j < n) 
    (kk : V l g mt dp Z bc bs pc2 ls (.int (ii (I a j)) :: st) S I X) (hn : n ≤ 2000000 := by decide) : V l g mt dp Z bc bs pc ls (.int (ii z) :: .ref a :: st) S I X := by
  obtain ⟨hd1, rfl⟩ := hd
  intro p e s m args below meth c H locs cells slots R lsA hv
  have hb := wld_at (g := g) (I := I) (X := X) ha
  rw [ent_int (by decide) (by decide)] at hb
  have hix : (ii z).toNatClampNeg = j := ii_ix hz (by omega)
  have q := va_iald (rest := st.map (tv g)) hv.1.1 hv.1.2.1 hv.1.2.2.2.2.2.2.2.2.2.2.1 hv.2.2.2.1.1 a 0 hb rfl (ii_in hz hj (by omega)) hd1 (by
    rw [hix]
    exact kk p e s m args below meth c H locs cells slots R lsA hv)
  rw [← ad_in hv.2.2.2.1 ha] at q
  exact q
theorem v_bald {n a j : Nat} {z : Int} (hd : DC (mCc mt) pc .baload 1 pc2) (ha : S.1[a]? = some (21, n)) (hz : z = (j : Int)) (hj : j < n) 
    (kk : V l g mt dp Z bc bs pc2 ls (.int (ii (I a j)) :: st) S I X) (hn : n ≤ 2000000 := by decide) : V l g mt dp Z bc bs pc ls (.int (ii z) :: .ref a :: st) S I X := by
  obtain ⟨hd1, rfl⟩ := hd
  intro p e s m args below meth c H locs cells slots R lsA hv
  have hb := wld_at (g := g) (I := I) (X := X) ha
  rw [ent_int (by decide) (by decide)] at hb
  have hix : (ii z).toNatClampNeg = j := ii_ix hz (by omega)
  have q := va_zald (rest := st.map (tv g)) hv.1.1 hv.1.2.1 hv.1.2.2.2.2.2.2.2.2.2.2.1 hv.2.2.2.1.1 a 1 hb rfl (ii_in hz hj (by omega)) hd1 (by
    rw [hix]
    exact kk p e s m args below meth c H locs cells slots R lsA hv)
  rw [← ad_in hv.2.2.2.1 ha] at q
  exact q
theorem v_lald {n a j : Nat} {z : Int} (hd : DC (mCc mt) pc .laload 1 pc2) (ha : S.1[a]? = some (24, n)) (hz : z = (j : Int)) (hj : j < n) 
    (kk : V l g mt dp Z bc bs pc2 ls (.long (X.1 a j) :: st) S I X) (hn : n ≤ 2000000 := by decide) : V l g mt dp Z bc bs pc ls (.int (ii z) :: .ref a :: st) S I X := by
  obtain ⟨hd1, rfl⟩ := hd
  intro p e s m args below meth c H locs cells slots R lsA hv
  have hb := wld_at (g := g) (I := I) (X := X) ha
  rw [ent_long] at hb
  have hix : (ii z).toNatClampNeg = j := ii_ix hz (by omega)
  have q := va_lald (rest := st.map (tv g)) hv.1.1 hv.1.2.1 hv.1.2.2.2.2.2.2.2.2.2.2.1 hv.2.2.2.1.1 a 4 hb rfl (ii_in hz hj (by omega)) hd1 (by
    rw [hix]
    exact kk p e s m args below meth c H locs cells slots R lsA hv)
  rw [← ad_in hv.2.2.2.1 ha] at q
  exact q
theorem v_dald {n a j : Nat} {z : Int} (hd : DC (mCc mt) pc .daload 1 pc2) (ha : S.1[a]? = some (25, n)) (hz : z = (j : Int)) (hj : j < n) 
    (kk : V l g mt dp Z bc bs pc2 ls (.double (X.2 a j) :: st) S I X) (hn : n ≤ 2000000 := by decide) : V l g mt dp Z bc bs pc ls (.int (ii z) :: .ref a :: st) S I X := by
  obtain ⟨hd1, rfl⟩ := hd
  intro p e s m args below meth c H locs cells slots R lsA hv
  have hb := wld_at (g := g) (I := I) (X := X) ha
  rw [ent_dbl] at hb
  have hix : (ii z).toNatClampNeg = j := ii_ix hz (by omega)
  have q := va_dald (rest := st.map (tv g)) hv.1.1 hv.1.2.1 hv.1.2.2.2.2.2.2.2.2.2.2.1 hv.2.2.2.1.1 a 5 hb rfl (ii_in hz hj (by omega)) hd1 (by
    rw [hix]
    exact kk p e s m args below meth c H locs cells slots R lsA hv)
  rw [← ad_in hv.2.2.2.1 ha] at q
  exact q
theorem v_iast {n a j : Nat} {z y : Int} (hd : DC (mCc mt) pc .iastore 1 pc2) (ha : S.1[a]? = some (20, n)) (hz : z = (j : Int)) (hj : j < n) 
    (kk : V l g mt dp Z bc bs pc2 ls st S (up I a j y) X) (hn : n ≤ 2000000 := by decide) : V l g mt dp Z bc bs pc ls (.int (ii y) :: .int (ii z) :: .ref a :: st) S I X := by
  obtain ⟨hd1, rfl⟩ := hd
  intro p e s m args below meth c H locs cells slots R lsA hv
  have hb := wld_at (g := g) (I := I) (X := X) ha
  rw [ent_int (by decide) (by decide)] at hb
  have hix : (ii z).toNatClampNeg = j := ii_ix hz (by omega)
  have hw : (wld g S I X).set a (gO g + a, .inl (g.2.1 20, n, .inl (upd (fun i => ii (I a i)) j (ii y)))) = wld g S (up I a j y) X := wld_set rfl ha (by rw [ent_int (by decide) (by decide), up_ii]) (fun b hb2 r => ent_I rfl (up_ne hb2) rfl rfl r)
  have q := va_iast (rest := st.map (tv g)) hv.1.1 hv.1.2.1 hv.1.2.2.2.2.2.2.2.2.2.2.1 hv.2.2.2.1.1 (wld_D g S I X) hv.2.2.2.2.1 a 0 hb rfl (ii_in hz hj (by omega)) hd1 (fun H1 locs1 hP hD hS => by
    rw [hix] at hP
    exact kk p e s m args below meth c H1 locs1 cells slots R lsA ⟨hv.1, hv.2.1, hv.2.2.1, ⟨by rw [← hw]; exact hP, hv.2.2.2.1.2⟩, hS, hv.2.2.2.2.2⟩)
  rw [← ad_in hv.2.2.2.1 ha] at q
  exact q
theorem v_bast {n a j : Nat} {z y : Int} (hd : DC (mCc mt) pc .bastore 1 pc2) (ha : S.1[a]? = some (21, n)) (hz : z = (j : Int)) (hj : j < n) (hy : y = 0 ∨ y = 1)
    (kk : V l g mt dp Z bc bs pc2 ls st S (up I a j y) X) (hn : n ≤ 2000000 := by decide) : V l g mt dp Z bc bs pc ls (.int (ii y) :: .int (ii z) :: .ref a :: st) S I X := by
  obtain ⟨hd1, rfl⟩ := hd
  intro p e s m args below meth c H locs cells slots R lsA hv
  have hb := wld_at (g := g) (I := I) (X := X) ha
  rw [ent_int (by decide) (by decide)] at hb
  have hix : (ii z).toNatClampNeg = j := ii_ix hz (by omega)
  have hnr : vp_nar .boolean (ii y) = ii y := by rcases hy with rfl | rfl <;> decide
  have hw : (wld g S I X).set a (gO g + a, .inl (g.2.1 21, n, .inl (upd (fun i => ii (I a i)) j (ii y)))) = wld g S (up I a j y) X := wld_set rfl ha (by rw [ent_int (by decide) (by decide), up_ii]) (fun b hb2 r => ent_I rfl (up_ne hb2) rfl rfl r)
  have q := va_zast (rest := st.map (tv g)) hv.1.1 hv.1.2.1 hv.1.2.2.2.2.2.2.2.2.2.2.1 hv.2.2.2.1.1 (wld_D g S I X) hv.2.2.2.2.1 a 1 hb rfl (ii_in hz hj (by omega)) hd1 (fun H1 locs1 hP hD hS => by
    rw [hix, hnr] at hP
    exact kk p e s m args below meth c H1 locs1 cells slots R lsA ⟨hv.1, hv.2.1, hv.2.2.1, ⟨by rw [← hw]; exact hP, hv.2.2.2.1.2⟩, hS, hv.2.2.2.2.2⟩)
  rw [← ad_in hv.2.2.2.1 ha] at q
  exact q
theorem v_last {n a j : Nat} {z : Int} {y : Int64} (hd : DC (mCc mt) pc .lastore 1 pc2) (ha : S.1[a]? = some (24, n)) (hz : z = (j : Int)) (hj : j < n) 
    (kk : V l g mt dp Z bc bs pc2 ls st S I (upL X.1 a j y, X.2)) (hn : n ≤ 2000000 := by decide) : V l g mt dp Z bc bs pc ls (.long y :: .int (ii z) :: .ref a :: st) S I X := by
  obtain ⟨hd1, rfl⟩ := hd
  intro p e s m args below meth c H locs cells slots R lsA hv
  have hb := wld_at (g := g) (I := I) (X := X) ha
  rw [ent_long] at hb
  have hix : (ii z).toNatClampNeg = j := ii_ix hz (by omega)
  have hw : (wld g S I X).set a (gO g + a, .inl (g.2.1 24, n, .inr (.inl (vp_updL (X.1 a) j y)))) = wld g S I (upL X.1 a j y, X.2) := wld_set rfl ha (by rw [ent_long]; simp only [upL_at]) (fun b hb2 r => ent_I (I := I) (I2 := I) (X := X) (X2 := (upL X.1 a j y, X.2)) rfl rfl (upL_ne hb2) rfl r)
  have q := va_last (rest := st.map (tv g)) hv.1.1 hv.1.2.1 hv.1.2.2.2.2.2.2.2.2.2.2.1 hv.2.2.2.1.1 (wld_D g S I X) hv.2.2.2.2.1 a 4 hb rfl (ii_in hz hj (by omega)) hd1 (fun H1 locs1 hP hD hS => by
    rw [hix] at hP
    exact kk p e s m args below meth c H1 locs1 cells slots R lsA ⟨hv.1, hv.2.1, hv.2.2.1, ⟨by rw [← hw]; exact hP, hv.2.2.2.1.2⟩, hS, hv.2.2.2.2.2⟩)
  rw [← ad_in hv.2.2.2.1 ha] at q
  exact q
theorem v_dast {n a j : Nat} {z : Int} {y : UInt64} (hd : DC (mCc mt) pc .dastore 1 pc2) (ha : S.1[a]? = some (25, n)) (hz : z = (j : Int)) (hj : j < n) 
    (kk : V l g mt dp Z bc bs pc2 ls st S I (X.1, upD X.2 a j y)) (hn : n ≤ 2000000 := by decide) : V l g mt dp Z bc bs pc ls (.double y :: .int (ii z) :: .ref a :: st) S I X := by
  obtain ⟨hd1, rfl⟩ := hd
  intro p e s m args below meth c H locs cells slots R lsA hv
  have hb := wld_at (g := g) (I := I) (X := X) ha
  rw [ent_dbl] at hb
  have hix : (ii z).toNatClampNeg = j := ii_ix hz (by omega)
  have hw : (wld g S I X).set a (gO g + a, .inl (g.2.1 25, n, .inr (.inr (.inr (.inl (vf_upd (X.2 a) j y)))))) = wld g S I (X.1, upD X.2 a j y) := wld_set rfl ha (by rw [ent_dbl]; simp only [upD_at]) (fun b hb2 r => ent_I (I := I) (I2 := I) (X := X) (X2 := (X.1, upD X.2 a j y)) rfl rfl rfl (upD_ne hb2) r)
  have q := va_dast (rest := st.map (tv g)) hv.1.1 hv.1.2.1 hv.1.2.2.2.2.2.2.2.2.2.2.1 hv.2.2.2.1.1 (wld_D g S I X) hv.2.2.2.2.1 a 5 hb rfl (ii_in hz hj (by omega)) hd1 (fun H1 locs1 hP hD hS => by
    rw [hix] at hP
    exact kk p e s m args below meth c H1 locs1 cells slots R lsA ⟨hv.1, hv.2.1, hv.2.2.1, ⟨by rw [← hw]; exact hP, hv.2.2.2.1.2⟩, hS, hv.2.2.2.2.2⟩)
  rw [← ad_in hv.2.2.2.1 ha] at q
  exact q
theorem v_aald23 {n a j : Nat} {z : Int} {b : Nat} (hd : DC (mCc mt) pc .aaload 1 pc2) (ha : S.1[a]? = some (23, n)) (hz : z = (j : Int)) (hj : j < n) (hp : S.2.1 a j = some b)
    (kk : V l g mt dp Z bc bs pc2 ls (.ref b :: st) S I X) (hn : n ≤ 2000000 := by decide) : V l g mt dp Z bc bs pc ls (.int (ii z) :: .ref a :: st) S I X := by
  obtain ⟨hd1, rfl⟩ := hd
  intro p e s m args below meth c H locs cells slots R lsA hv
  have hb := wld_at (g := g) (I := I) (X := X) ha
  rw [ent_ref (by decide) (by decide)] at hb
  have hix : (ii z).toNatClampNeg = j := ii_ix hz (by omega)
  have q := va_aldq (rest := st.map (tv g)) hv.1.1 hv.1.2.1 hv.1.2.2.2.2.2.2.2.2.2.2.1 hv.2.2.2.1.1 a 3 hb rfl (ii_in hz hj (by omega)) hd1 (by
    rw [hix, hp]
    exact kk p e s m args below meth c H locs cells slots R lsA hv)
  rw [← ad_in hv.2.2.2.1 ha] at q
  exact q
theorem v_aald22 {n a j b : Nat} {z : Int} (hd : DC (mCc mt) pc .aaload 1 pc2) (ha : S.1[a]? = some (22, n)) (hz : z = (j : Int)) (hj : j < n) (hp : S.2.1 a j = some b)
    (kk : V l g mt dp Z bc bs pc2 ls (.ref b :: st) S I X) (hn : n ≤ 2000000 := by decide) : V l g mt dp Z bc bs pc ls (.int (ii z) :: .ref a :: st) S I X := by
  obtain ⟨hd1, rfl⟩ := hd
  intro p e s m args below meth c H locs cells slots R lsA hv
  have hb := wld_at (g := g) (I := I) (X := X) ha
  rw [ent_ref (by decide) (by decide)] at hb
  have hix : (ii z).toNatClampNeg = j := ii_ix hz (by omega)
  have hin := ii_in hz hj (by omega : n ≤ 2147483648)
  have hh := kk p e s m args below meth c H locs cells slots R lsA hv
  have q := W.aald (v := .ref (ad g b)) (ty := .array .int) (rest := st.map (tv g)) (g := F0 m pc lsA (.int (ii z) :: .ref (gO g + a) :: st.map (tv g))) hv.1.1 hv.1.2.1 (hv.2.2.2.1.1 a _ hb) ((hv.1.2.2.2.2.2.2.2.2.2.2.1.2 2 _ rfl).1 n (fun i => va_rf ((S.2.1 a i).map (ad g)))) rfl (fun q => by cases q) (by show ¬ (ii z < 0 ∨ (arrV _ _ _).slots.size ≤ _); rw [arrV_size]; exact hin) (by show (arrV _ _ _).slots[(ii z).toNatClampNeg]? = _; rw [hix, arrV_read _ _ hj]; simp only [hp]; rfl) rfl rfl hd1 hh
  rw [← ad_in hv.2.2.2.1 ha] at q
  exact q
theorem v_alen {n a t : Nat} (hd : DC (mCc mt) pc .arraylength 1 pc2) (ha : S.1[a]? = some (t, n)) (ht : t = 20)
    (kk : V l g mt dp Z bc bs pc2 ls (.int (ii (n : Int)) :: st) S I X) : V l g mt dp Z bc bs pc ls (.ref a :: st) S I X := by
  subst ht
  obtain ⟨hd1, rfl⟩ := hd
  intro p e s m args below meth c H locs cells slots R lsA hv
  have hb := wld_at (g := g) (I := I) (X := X) ha
  rw [ent_int (by decide) (by decide)] at hb
  have q := va_alen (v := ii (n : Int)) (rest := st.map (tv g)) hv.1.1 hv.1.2.1 hv.1.2.2.2.2.2.2.2.2.2.2.1 hv.2.2.2.1.1 a 0 hb (ty := .int) rfl (nI_ii n) hd1 (kk p e s m args below meth c H locs cells slots R lsA hv)
  rw [← ad_in hv.2.2.2.1 ha] at q
  exact q
theorem v_slen (hd : DC (mCc mt) pc .arraylength 1 pc2) (kk : V l g mt dp Z bc bs pc2 ls (.int (ii ((gL g : Nat) : Int)) :: st) S I X) : V l g mt dp Z bc bs pc ls (.ref 999999 :: st) S I X := by
  obtain ⟨hd1, rfl⟩ := hd
  intro p e s m args below meth c H locs cells slots R lsA hv
  obtain ⟨h1, h2, h3, h4, -⟩ := hv.1.2.2.2.2.2.2.2.2.2.2
  have hh := kk p e s m args below meth c H locs cells slots R lsA hv
  have q := va_slen (rest := st.map (tv g)) hv.1.1 hv.1.2.1 h2 (Nat.lt_of_lt_of_le h3 h4) (Nat.not_le.mpr h3) hv.2.2.2.2.1 hd1 (by
    rw [show Int32.ofNat (gL g) = ii ((gL g : Nat) : Int) from nI_ii _]
    exact hh)
  have e1 : ad g 999999 = gB g := if_pos rfl
  rw [← e1] at q
  exact q
theorem v_sld {z : Int} {j : Nat} (hd : DC (mCc mt) pc .iaload 1 pc2) (hz : z = (j : Int)) (hj : j < gL g) (hL : gL g ≤ 2048) (kk : V l g mt dp Z bc bs pc2 ls (.int (gXs g j) :: st) S I X) : V l g mt dp Z bc bs pc ls (.int (ii z) :: .ref 999999 :: st) S I X := by
  obtain ⟨hd1, rfl⟩ := hd
  intro p e s m args below meth c H locs cells slots R lsA hv
  obtain ⟨h1, h2, h3, h4, -⟩ := hv.1.2.2.2.2.2.2.2.2.2.2
  have hh := kk p e s m args below meth c H locs cells slots R lsA hv
  have hix : (ii z).toNatClampNeg = j := ii_ix hz (by omega)
  have q := va_sld (rest := st.map (tv g)) hv.1.1 hv.1.2.1 h2 (Nat.lt_of_lt_of_le h3 h4) (Nat.not_le.mpr h3) hv.2.2.2.2.1 (ii_in hz hj (by omega)) hd1 (by
    rw [hix]
    exact hh)
  have e1 : ad g 999999 = gB g := if_pos rfl
  rw [← e1] at q
  exact q
end FD
