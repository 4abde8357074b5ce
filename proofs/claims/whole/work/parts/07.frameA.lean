/-! THE FRAME, A: a small machine over a layout that only grows, with whole numbers in its cells; its picture in the heap -/
abbrev GV : Type := va_G × (Nat → ClassId) × Nat × Nat × Nat × (Nat → Int32)
abbrev SS : Type := List (Nat × Nat) × (Nat → Nat → Option Nat) × Bool
abbrev II : Type := Nat → Nat → Int
abbrev XX : Type := (Nat → Nat → Int64) × (Nat → Nat → UInt64)
/-- a method: class, name, descriptor, code, locals, return type, handlers -/
abbrev MT : Type := String × String × String × ByteArray × Nat × Option FieldType × List (Nat × Nat × Nat × Nat)
abbrev mOwn (mt : MT) : String := mt.1
abbrev mNm (mt : MT) : String := mt.2.1
abbrev mDs (mt : MT) : String := mt.2.2.1
abbrev mCc (mt : MT) : ByteArray := mt.2.2.2.1
abbrev mNL (mt : MT) : Nat := mt.2.2.2.2.1
abbrev mRt (mt : MT) : Option FieldType := mt.2.2.2.2.2.1
abbrev mHh (mt : MT) : List (Nat × Nat × Nat × Nat) := mt.2.2.2.2.2.2
abbrev mY (mt : MT) : MethodName := ⟨mOwn mt, mNm mt, mDs mt⟩
abbrev gO (g : GV) : Nat := g.2.2.1
abbrev gB (g : GV) : Nat := g.2.2.2.1
abbrev gL (g : GV) : Nat := g.2.2.2.2.1
abbrev gXs (g : GV) : Nat → Int32 := g.2.2.2.2.2
def ii (z : Int) : Int32 := Int32.ofInt z
/-- the address of a cell: 999999 is the script -/
def ad (g : GV) (a : Nat) : Nat := if a = 999999 then gB g else gO g + a
def tv (g : GV) : Value → Value
  | .ref a => .ref (ad g a)
  | v => v
def rfT : List (List Bool) := [[true, true, false, false], [true, true, true, true, true, true, true, true, true, true, false, false, false, false, false, false], [false, true, false, true, false, true, true, true], [true, true, true], [true, false], [false, false, true, true, true], [true, true, true, true, true, true, true, true, true], [true, true, false, false, false, false], [true, true, true, true, true, true, true, true, true, true, false, false, false, false], [true, true, true, false, true, false, false, true, false, false, false, false, true, false, false, false, true, true, true, true, true, true, true, true, true, true, true, true, true, true, true, true, false, true, true, true, true, true, true, false, false, false, false, false, false, false, true, true, true, true]]
/-- whether a field of a class is a reference -/
def rf (c j : Nat) : Bool := (rfT.getD c []).getD j false
def fvl (g : GV) (S : SS) (I : II) (k t j : Nat) : Value := if rf t j = true then va_rf ((S.2.1 k j).map (ad g)) else .int (ii (I k j))
def ent (g : GV) (S : SS) (I : II) (X : XX) (k : Nat) (q : Nat × Nat) : va_E :=
  if q.1 < 20 then .inr (q.1, (List.range q.2).map (fvl g S I k q.1))
  else if q.1 < 22 then .inl (g.2.1 q.1, q.2, .inl (fun j => ii (I k j)))
  else if q.1 < 24 then .inl (g.2.1 q.1, q.2, .inr (.inr (.inr (.inr (fun j => (S.2.1 k j).map (ad g))))))
  else if q.1 = 24 then .inl (g.2.1 24, q.2, .inr (.inl (X.1 k)))
  else .inl (g.2.1 25, q.2, .inr (.inr (.inr (.inl (X.2 k)))))
def wld (g : GV) (S : SS) (I : II) (X : XX) : va_W := S.1.mapIdx (fun k q => (gO g + k, ent g S I X k q))
abbrev tysG (g : GV) : List (ClassId × FieldType) := [(g.2.1 20, .int), (g.2.1 21, .boolean), (g.2.1 22, .array .int), (g.2.1 23, .object RX2), (g.2.1 24, .long), (g.2.1 25, .double)]
def gA (g : GV) : Nat → Prop := fun q => gO g ≤ q
def Sim (g : GV) (S : SS) (I : II) (X : XX) (H : Heap) : Prop := va_P g.1 gCl (wld g S I X) H ∧ S.1.length < 900000
theorem wld_at {g : GV} {S : SS} {I : II} {X : XX} {a : Nat} {q : Nat × Nat} (h : S.1[a]? = some q) : (wld g S I X)[a]? = some (gO g + a, ent g S I X a q) := by
  unfold wld
  rw [List.getElem?_mapIdx, h]
  rfl
theorem wld_none {g : GV} {S : SS} {I : II} {X : XX} {a : Nat} {x : Nat × va_E} (h : (wld g S I X)[a]? = some x) : ∃ q, S.1[a]? = some q ∧ x = (gO g + a, ent g S I X a q) := by
  unfold wld at h
  rw [List.getElem?_mapIdx] at h
  cases hq : S.1[a]? with
  | none => rw [hq] at h; cases h
  | some q => rw [hq] at h; exact ⟨q, rfl, (Option.some.inj h).symm⟩
theorem wld_D (g : GV) (S : SS) (I : II) (X : XX) : va_D (gA g) (wld g S I X) := by
  refine ⟨fun i j p q hi hj hpq => ?_, fun k q hk => ?_⟩
  · obtain ⟨_, _, rfl⟩ := wld_none hi
    obtain ⟨_, _, rfl⟩ := wld_none hj
    have : gO g + i = gO g + j := hpq
    omega
  · obtain ⟨_, _, rfl⟩ := wld_none hk
    exact Nat.le_add_right _ _
theorem wld_set {g : GV} {S S2 : SS} {I I2 : II} {X X2 : XX} {a : Nat} {q : Nat × Nat} {E : va_E} (hs : S2.1 = S.1) (h : S.1[a]? = some q) (hE : ent g S2 I2 X2 a q = E) (ho : ∀ j, j ≠ a → ∀ r, ent g S2 I2 X2 j r = ent g S I X j r) : (wld g S I X).set a (gO g + a, E) = wld g S2 I2 X2 := by
  apply List.ext_getElem?
  intro j
  rw [List.getElem?_set]
  unfold wld
  rw [hs, List.getElem?_mapIdx, List.getElem?_mapIdx]
  by_cases hj : a = j
  · subst hj
    rw [if_pos rfl, h]
    have hl : a < (List.mapIdx (fun k q => (gO g + k, ent g S I X k q)) S.1).length := by
      rw [List.length_mapIdx]
      exact (List.getElem?_eq_some_iff.mp h).1
    rw [if_pos hl, Option.map_some, hE]
  · rw [if_neg hj]
    cases hq : S.1[j]? with
    | none => rfl
    | some r => rw [Option.map_some, Option.map_some, ho j (fun e => hj e.symm) r]
theorem wld_push {g : GV} {S S2 : SS} {I : II} {X : XX} {q : Nat × Nat} {E : va_E} (hs : S2.1 = S.1 ++ [q]) (hp : S2.2.1 = S.2.1) (hE : ent g S I X S.1.length q = E) : wld g S I X ++ [(gO g + S.1.length, E)] = wld g S2 I X := by
  have he : ∀ k r, ent g S2 I X k r = ent g S I X k r := fun k r => by
    unfold ent fvl
    rw [hp]
  unfold wld
  rw [hs, List.mapIdx_append]
  congr 1
  · apply List.mapIdx_eq_mapIdx_iff.mpr
    intro k hk
    rw [he]
  · simp only [List.mapIdx_cons, List.mapIdx_nil, Nat.zero_add]
    rw [he, hE]
/-- one cell's number set -/
def up (I : II) (a k : Nat) (z : Int) : II := fun b => if b = a then (fun j => if j = k then z else I a j) else I b
theorem up_ne {I : II} {a k b : Nat} {z : Int} (h : b ≠ a) : up I a k z b = I b := if_neg h
theorem up_at {I : II} {a k : Nat} {z : Int} : up I a k z a = fun j => if j = k then z else I a j := if_pos rfl
theorem up_eq {I : II} {a k : Nat} {z : Int} : up I a k z a k = z := by rw [up_at]; exact if_pos rfl
theorem up_nk {I : II} {a k j : Nat} {z : Int} (h : j ≠ k) : up I a k z a j = I a j := by rw [up_at]; exact if_neg h
def upP (P : Nat → Nat → Option Nat) (a k : Nat) (z : Option Nat) : Nat → Nat → Option Nat := fun b => if b = a then (fun j => if j = k then z else P a j) else P b
theorem ent_I {g : GV} {S S2 : SS} {I I2 : II} {X X2 : XX} {j : Nat} (h1 : S2.2.1 j = S.2.1 j) (h2 : I2 j = I j) (h3 : X2.1 j = X.1 j) (h4 : X2.2 j = X.2 j) (r : Nat × Nat) : ent g S2 I2 X2 j r = ent g S I X j r := by
  unfold ent fvl
  rw [h1, h2, h3, h4]
theorem fvl_set {g : GV} {S S2 : SS} {I I2 : II} {a t n k : Nat} (ho : ∀ j, j ≠ k → fvl g S2 I2 a t j = fvl g S I a t j) : ((List.range n).map (fvl g S I a t)).set k (fvl g S2 I2 a t k) = (List.range n).map (fvl g S2 I2 a t) := by
  apply List.ext_getElem?
  intro j
  rw [List.getElem?_set, List.getElem?_map, List.getElem?_map, List.length_map, List.length_range]
  by_cases hj : k = j
  · subst hj
    rw [if_pos rfl]
    by_cases hk : k < n
    · rw [if_pos hk, List.getElem?_range hk, Option.map_some]
    · rw [if_neg hk, List.getElem?_eq_none (by rw [List.length_range]; omega)]
      rfl
  · rw [if_neg hj]
    by_cases hk : j < n
    · rw [List.getElem?_range hk, Option.map_some, Option.map_some, ho j (fun e => hj e.symm)]
    · rw [List.getElem?_eq_none (by rw [List.length_range]; omega)]
      rfl
/-- the locals -/
def lvl (g : GV) : Nat → List (Option Value) → List (Nat × Value)
  | _, [] => []
  | i, none :: r => lvl g (i + 1) r
  | i, some v :: r => (i, tv g v) :: lvl g (i + 1) r
theorem lvl_mem {g : GV} : ∀ (ls : List (Option Value)) (n j : Nat) (u : Value), ls[j]? = some (some u) → (n + j, tv g u) ∈ lvl g n ls
  | [], _, _, _, h => by simp at h
  | none :: r, n, 0, u, h => by simp at h
  | none :: r, n, j + 1, u, h => by
    have h2 := lvl_mem (g := g) r (n + 1) j u (by simpa using h)
    rw [show n + (j + 1) = n + 1 + j by omega]
    exact h2
  | some v :: r, n, 0, u, h => by
    have : v = u := by simpa using h
    subst this
    exact List.mem_cons_self
  | some v :: r, n, j + 1, u, h => by
    have h2 := lvl_mem (g := g) r (n + 1) j u (by simpa using h)
    rw [show n + (j + 1) = n + 1 + j by omega]
    exact List.mem_cons_of_mem _ h2
def LH (g : GV) (lsA : Array Slot) (nL : Nat) (ls : List (Option Value)) : Prop := lsA.size = nL ∧ lv_wf lsA ∧ (∀ (i : Nat) (u : Value), ls[i]? = some (some u) → lsA[i]? = some (.val (tv g u))) ∧ ls.length = nL
theorem lvl_of {g : GV} : ∀ (ls : List (Option Value)) (n : Nat) (q : Nat × Value), q ∈ lvl g n ls → ∃ (j : Nat) (u : Value), ls[j]? = some (some u) ∧ q = (n + j, tv g u)
  | [], _, _, h => by cases h
  | none :: r, n, q, h => by
    obtain ⟨j, u, h1, h2⟩ := lvl_of (g := g) r (n + 1) q h
    exact ⟨j + 1, u, by simpa using h1, by rw [h2]; congr 1; omega⟩
  | some v :: r, n, q, h => by
    rcases List.mem_cons.mp h with h | h
    · exact ⟨0, v, rfl, h⟩
    · obtain ⟨j, u, h1, h2⟩ := lvl_of (g := g) r (n + 1) q h
      exact ⟨j + 1, u, by simpa using h1, by rw [h2]; congr 1; omega⟩
theorem LH_has {g : GV} {lsA : Array Slot} {nL : Nat} {ls : List (Option Value)} (h : LH g lsA nL ls) : lv_has lsA nL (lvl g 0 ls) := by
  refine ⟨h.1, h.2.1, fun q hq => ?_⟩
  obtain ⟨j, u, h1, h2⟩ := lvl_of ls 0 q hq
  rw [h2, Nat.zero_add]
  exact h.2.2.1 j u h1
theorem LH_of {g : GV} {lsA : Array Slot} {nL : Nat} {lv : List (Nat × Value)} {ls : List (Option Value)} (h : lv_has lsA nL lv) (hn : ls.length = nL) (hm : ∀ (i : Nat) (u : Value), ls[i]? = some (some u) → (i, tv g u) ∈ lv) : LH g lsA nL ls := ⟨h.1, h.2.1, fun i u hu => h.2.2 _ (hm i u hu), hn⟩
theorem LH_sub {g : GV} {lsA : Array Slot} {nL : Nat} {ls ls2 : List (Option Value)} (h : LH g lsA nL ls) (hs : ∀ (i : Nat) (u : Value), ls2[i]? = some (some u) → ls[i]? = some (some u)) (hn : ls2.length = ls.length) : LH g lsA nL ls2 := ⟨h.1, h.2.1, fun i u hu => h.2.2.1 i u (hs i u hu), hn.trans h.2.2.2⟩
theorem tv_cat (g : GV) (v : Value) : (tv g v).category = v.category := by cases v <;> rfl
/-- a store of one word into the locals: nothing of two words may end there -/
theorem LH_st {g : GV} {lsA lsB : Array Slot} {nL i : Nat} {v : Value} {ls : List (Option Value)} (h : LH g lsA nL ls) (hp : ∀ u, i ≠ 0 → ls[i - 1]? = some (some u) → u.category = 1)
    (hB : lv_has lsB nL ((i, tv g v) :: (lvl g 0 ls).filter (fun q => !(q.1 == i) && !(q.1 + 1 == i && q.2.category == 2)))) : LH g lsB nL (ls.set i (some v)) := by
  refine LH_of hB (by rw [List.length_set]; exact h.2.2.2) fun j u hu => ?_
  rw [List.getElem?_set] at hu
  by_cases hj : i = j
  · subst hj
    rw [if_pos rfl] at hu
    split at hu
    · cases hu
      exact List.mem_cons_self
    · cases hu
  · rw [if_neg hj] at hu
    refine List.mem_cons_of_mem _ (List.mem_filter.mpr ⟨?_, ?_⟩)
    · have := lvl_mem (g := g) ls 0 j u hu
      rwa [Nat.zero_add] at this
    · have h1 : (j == i) = false := by simpa using fun e => hj e.symm
      by_cases h2 : j + 1 = i
      · have hc := hp u (by omega) (by rw [← h2]; simpa using hu)
        simp [h1, h2, tv_cat, hc]
      · simp [h1, h2]
/-- a store of two words -/
theorem LH_st2 {g : GV} {lsA lsB : Array Slot} {nL i : Nat} {v : Value} {ls : List (Option Value)} (h : LH g lsA nL ls) (hp : ∀ u, i ≠ 0 → ls[i - 1]? = some (some u) → u.category = 1)
    (hB : lv_has lsB nL ((i, tv g v) :: (lvl g 0 ls).filter (fun q => !(q.1 == i) && (!(q.1 == i + 1) && !(q.1 + 1 == i && q.2.category == 2))))) : LH g lsB nL ((ls.set i (some v)).set (i + 1) none) := by
  refine LH_of hB (by rw [List.length_set, List.length_set]; exact h.2.2.2) fun j u hu => ?_
  rw [List.getElem?_set] at hu
  by_cases hj1 : i + 1 = j
  · subst hj1
    rw [if_pos rfl] at hu
    split at hu <;> cases hu
  · rw [if_neg hj1, List.getElem?_set] at hu
    by_cases hj : i = j
    · subst hj
      rw [if_pos rfl] at hu
      split at hu
      · cases hu
        exact List.mem_cons_self
      · cases hu
    · rw [if_neg hj] at hu
      refine List.mem_cons_of_mem _ (List.mem_filter.mpr ⟨?_, ?_⟩)
      · have := lvl_mem (g := g) ls 0 j u hu
        rwa [Nat.zero_add] at this
      · have h1 : (j == i) = false := by simpa using fun e => hj e.symm
        have h3 : (j == i + 1) = false := by simpa using fun e => hj1 e.symm
        by_cases h2 : j + 1 = i
        · have hc := hp u (by omega) (by rw [← h2]; simpa using hu)
          simp [h1, h3, h2, tv_cat, hc]
        · simp [h1, h3, h2]
