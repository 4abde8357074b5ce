/-! THE FRAME, G: rows of references, rows of rows, calls that throw, handlers -/
theorem ad_eq {g : GV} {a : Nat} (h : a < 900000) : ad g a = gO g + a := by
  unfold ad
  rw [if_neg (by omega)]
theorem outer_at (c : ClassId) (N h0 : Nat) : ∀ i : Nat, Jvm.Free.Multi.outerC c N h0 i = arrV c N (fun j => va_rf (if j < i then some (h0 + 1 + j) else none))
  | 0 => by
    show ({ cls := c, slots := Array.replicate N .null, vm := .none } : Cell) = _
    rw [arrV_new]
    refine congrArg (arrV c N) (funext fun j => ?_)
    simp [va_rf]
  | i + 1 => by
    show (Jvm.Free.Multi.outerC c N h0 i).setSlot i (.ref (h0 + 1 + i)) = _
    rw [outer_at c N h0 i, arrV_store]
    refine congrArg (arrV c N) (funext fun j => ?_)
    by_cases e : j = i
    · subst e
      simp [updV, va_rf]
    · by_cases h : j < i
      · simp [updV, e, h, Nat.lt_succ_of_lt h]
      · simp [updV, e, h, show ¬ j < i + 1 by omega]
/-- a row of rows: where its rows lie -/
def upN (P : Nat → Nat → Option Nat) (a N : Nat) : Nat → Nat → Option Nat := fun b => if b = a then (fun i => if i < N then some (a + 1 + i) else none) else P b
theorem upN_ne {P : Nat → Nat → Option Nat} {a N b : Nat} (h : b ≠ a) : upN P a N b = P b := if_neg h
theorem upN_at {P : Nat → Nat → Option Nat} {a N : Nat} : upN P a N a = fun i => if i < N then some (a + 1 + i) else none := if_pos rfl
def Sm (S : SS) (N K : Nat) : SS := (S.1 ++ (22, N) :: List.replicate N (20, K), upN S.2.1 S.1.length N, true)
theorem Sm_len (S : SS) (N K : Nat) : (Sm S N K).1.length = S.1.length + 1 + N := by
  show (S.1 ++ (22, N) :: List.replicate N (20, K)).length = _
  rw [List.length_append, List.length_cons, List.length_replicate]
  omega
section FG
variable {l : Launch} {g : GV} {mt : MT} {dp bc bs pc pc2 : Nat} {Z : ZZ} {ls : List (Option Value)} {st : List Value} {S : SS} {I : II} {X : XX} {Q : QQ}
theorem v_multi {idx N K bc2 bs2 : Nat} {z1 z2 : Int} (hd : DC (mCc mt) pc (.multianewarray idx 2) 4 pc2) (hL1 : Cond.classLink (mOwn mt) idx "[[I" ∈ lw_good) (hL2 : Cond.arrayOver (.array .int) ∈ lw_tbl) (hL3 : Cond.arrayClass .int ∈ lw_good) (hex : S.2.2 = true) (hI : ∀ a j, S.1.length ≤ a → I a j = 0) (h1 : z1 = (N : Int)) (h2 : z2 = (K : Int)) (hN : N ≤ 1000) (hK9 : K ≤ 1000) (hlen : S.1.length < 800000) (hbc : bc = 1 + N + bc2) (hbs : bs = N + N * K + bs2)
    (kk : V l g mt dp Z bc2 bs2 pc2 ls (.ref S.1.length :: st) (Sm S N K) I X) : V l g mt dp Z bc bs pc ls (.int (ii z2) :: .int (ii z1) :: st) S I X := by
  obtain ⟨hd1, rfl⟩ := hd
  intro p e s m args below meth c H locs cells slots R lsA hv T hT Xs
  obtain ⟨b1, b2, b3⟩ := hv.2.2.1
  have b4 := b3 hex
  have hho : gO g ≤ H.size := Nat.le_trans hv.1.2.2.2.2.2.2.2.2.2.2.2.2.2.1 hv.2.2.2.2.1.1
  have hub : H.size ≤ s.heap.size + cells := by rw [← hT]; exact Xs.heapSize
  have hlb := Sim_size hv.2.2.2.1 hho
  have hsz : H.size = gO g + S.1.length := by omega
  have nn : ∀ (z : Int) (j : Nat), z = (j : Int) → j < 2147483648 → ¬ ii z < 0 := fun z j h hj q => by
    rw [ii_0, ii_lt (by omega) (by omega)] at q
    omega
  have n1 : (ii z1).toNatClampNeg = N := ii_ix h1 (by omega)
  have n2 : (ii z2).toNatClampNeg = K := ii_ix h2 (by omega)
  have hover : (Cond.arrayOver (.array .int)).before args s = true := by
    have h9 := hv.1.2.2.2.2.2.2.2.2.2.2.2.2.2.2.2.2.1 _ hL2 rfl
    exact h9
  have hcb : K * componentBytes FieldType.int ≤ 536870912 := Nat.le_trans (Nat.mul_le_mul_right _ hK9) (Nat.le_of_ble_eq_true rfl)
  obtain ⟨vm₁, cA, comp, -, fA, fC, hO, -, X', step⟩ := Xs.multianewarray2F hv.1.1 hv.1.2.2.2.2.1 (hv.1.2.2.2.2.2.1 _ hL1) hover (hv.1.2.2.2.2.2.1 _ hL3) (g := F0 m pc lsA (.int (ii z2) :: .int (ii z1) :: st.map (tv g))) rfl (by rw [hv.1.2.1]; exact hd1) rfl (nn z1 N h1 (by omega)) (nn z2 K h2 (by omega)) (by rw [n1]; omega) (by rw [n2]; exact hcb) (by rw [n2]; omega) rfl rfl (by rw [n1]; omega) (by rw [n1, n2]; omega)
  rw [n1, n2] at X' step
  have hKK := hv.1.2.2.2.2.2.2.2.2.2.2.1
  have ec : comp = g.2.1 20 := Option.some.inj (fC.symm.trans (show s.vm.findClass _ = _ from (hKK.2 0 _ rfl).2))
  have eA : cA = g.2.1 22 := Option.some.inj (fA.symm.trans (show s.vm.findClass _ = _ from (hKK.2 2 _ rfl).2))
  subst ec
  subst eA
  generalize hF : Jvm.Free.Multi.fill (T.setVm vm₁) (g.2.1 22) (g.2.1 20) N K (defaultValue .int) N = F at X' step
  have hTh : (T.setVm vm₁).heap = H := hT
  obtain ⟨f1, f2, -, -⟩ := Jvm.Free.Multi.fill_facts (T.setVm vm₁) (g.2.1 22) (g.2.1 20) N K (defaultValue .int) N
  rw [hF, hTh] at f1 f2
  have hold : ∀ x : Nat, x < H.size → F.heap[x]? = H[x]? := fun x hx => by
    have := Jvm.Free.Multi.fill_old (T.setVm vm₁) (g.2.1 22) (g.2.1 20) N K (defaultValue .int) (a := x) (by rw [hTh]; exact hx) N
    rw [hF, hTh] at this
    exact this
  have hrow : ∀ j : Nat, j < N → F.heap[H.size + 1 + j]? = some (Jvm.Free.Multi.innerC (g.2.1 20) K (defaultValue .int)) := fun j hj => by
    have := Jvm.Free.Multi.fill_inner (T.setVm vm₁) (g.2.1 22) (g.2.1 20) N K (defaultValue .int) N j hj
    rw [hF, hTh] at this
    exact this
  rw [outer_at] at f2
  have hsm : (Sm S N K).1.length = S.1.length + 1 + N := Sm_len S N K
  have hP : va_P g.1 gCl (wld g (Sm S N K) I X) F.heap := by
    intro k q hk
    obtain ⟨r, hr, rfl⟩ := wld_none hk
    rcases Nat.lt_trichotomy k S.1.length with hlt | heq | hgt
    · have hr2 : S.1[k]? = some r := by
        have h9 : (S.1 ++ (22, N) :: List.replicate N (20, K))[k]? = some r := hr
        rwa [List.getElem?_append_left hlt] at h9
      have he : ent g (Sm S N K) I X k r = ent g S I X k r := ent_I (upN_ne (by omega)) rfl rfl rfl r
      rw [he]
      have hat := hv.2.2.2.1.1 k _ (wld_at hr2)
      exact hat.kept (hold _ hat.lt)
    · subst heq
      have hr2 : r = (22, N) := by
        have h9 : (S.1 ++ (22, N) :: List.replicate N (20, K))[S.1.length]? = some r := hr
        rw [List.getElem?_append_right (Nat.le_refl _), Nat.sub_self] at h9
        exact (Option.some.inj h9).symm
      subst hr2
      rw [ent_ref (by decide) (by decide)]
      show F.heap[gO g + S.1.length]? = some (vp_cell _ _)
      rw [← hsz, f2, vp_cell_q]
      congr 2
      funext j
      show va_rf _ = va_rf ((upN S.2.1 S.1.length N S.1.length j).map (ad g))
      rw [upN_at]
      dsimp only
      by_cases hj : j < N
      · rw [if_pos hj, if_pos hj, Option.map_some, ad_eq (by omega), hsz]
        congr 2
        omega
      · rw [if_neg hj, if_neg hj]
        rfl
    · obtain ⟨i, rfl⟩ : ∃ i, k = S.1.length + 1 + i := ⟨k - S.1.length - 1, by omega⟩
      have hi : i < N := by
        have h9 := (List.getElem?_eq_some_iff.mp hr).1
        rw [hsm] at h9
        omega
      have hr2 : r = (20, K) := by
        have h9 : (S.1 ++ (22, N) :: List.replicate N (20, K))[S.1.length + 1 + i]? = some r := hr
        rw [List.getElem?_append_right (by omega), show S.1.length + 1 + i - S.1.length = i + 1 by omega, List.getElem?_cons_succ, List.getElem?_replicate, if_pos hi] at h9
        exact (Option.some.inj h9).symm
      subst hr2
      rw [ent_int (by decide) (by decide)]
      show F.heap[gO g + (S.1.length + 1 + i)]? = some (vp_cell _ _)
      rw [show gO g + (S.1.length + 1 + i) = H.size + 1 + i by omega, hrow i hi, vp_cell_i]
      show some ({ cls := g.2.1 20, slots := Array.replicate K (Value.int 0), vm := .none } : Cell) = _
      rw [arrV_new]
      simp only [hI (S.1.length + 1 + i) _ (by omega)]
      rfl
  have e2 : ad g S.1.length = gO g + S.1.length := ad_eq (by omega)
  have hfs : F.heap.size = H.size + 1 + N := f1
  obtain ⟨t, a1, b9⟩ := kk p e s m args below meth c F.heap locs (cells + 1 + N) (slots + N + N * K) R lsA ⟨hv.1, hv.2.1, ⟨by omega, by omega, fun _ => by rw [hsm]; omega⟩, ⟨hP, by rw [hsm]; omega⟩,
    ⟨by have := hv.2.2.2.2.1.1; omega, fun q h1 h2 => by
      have h3 := hv.2.2.2.2.1.1
      exact (hold q (by omega)).trans (hv.2.2.2.2.1.2.1 q h1 h2), hv.2.2.2.2.1.2.2⟩, hv.2.2.2.2.2⟩ F rfl X'
  refine ⟨t, step t ?_, b9⟩
  have e3 : T.heap.size = gO g + S.1.length := by rw [hT]; exact hsz
  rw [e3, ← e2]
  exact a1
theorem v_anew {idx n bc2 bs2 : Nat} {z : Int} (hd : DC (mCc mt) pc (.anewarray idx) 3 pc2) (hL1 : Cond.classLink (mOwn mt) idx RX2 ∈ lw_good) (hL2 : Cond.arrayOver (.object RX2) ∈ lw_tbl) (hex : S.2.2 = true) (hP0 : ∀ j, S.2.1 S.1.length j = none) (hz : z = (n : Int)) (hn : n ≤ 1000) (hlen : S.1.length < 800000) (hbc : bc = 1 + bc2) (hbs : bs = n + bs2)
    (kk : V l g mt dp Z bc2 bs2 pc2 ls (.ref S.1.length :: st) (S.1 ++ [(23, n)], S.2.1, true) I X) : V l g mt dp Z bc bs pc ls (.int (ii z) :: st) S I X := by
  obtain ⟨hd1, rfl⟩ := hd
  intro p e s m args below meth c H locs cells slots R lsA hv T hT Xs
  obtain ⟨b1, b2, b3⟩ := hv.2.2.1
  have b4 := b3 hex
  have hA : ∀ q, s.heap.size ≤ q → gA g q := fun q hq => Nat.le_trans hv.1.2.2.2.2.2.2.2.2.2.2.2.2.2.1 hq
  have hn0 : ¬ ii z < 0 := fun q => by
    rw [ii_0, ii_lt (by omega) (by omega)] at q
    omega
  have hover : va_AO RX2 s := hv.1.2.2.2.2.2.2.2.2.2.2.2.2.2.2.2.2.1 _ hL2 rfl
  have hKK := hv.1.2.2.2.2.2.2.2.2.2.2.1
  refine va_newq (rest := st.map (tv g)) (N' := n) hv.1.1 hv.1.2.1 hv.1.2.2.2.2.1 (hv.1.2.2.2.2.2.1 _ hL1) hover hKK hv.2.2.2.1.1 (wld_D g S I X) hv.2.2.2.2.1 hA hn0 (ii_ix hz (by omega)) (by omega) (by omega) (by omega) hd1 (fun q cA H1 hK1 hP hD hS => ?_) T hT Xs
  intro T1 hT1 X1
  have hub : H1.size ≤ s.heap.size + (cells + 1) := by rw [← hT1]; exact X1.heapSize
  have hq := fresh_eq hP hD (by omega)
  subst hq
  obtain ⟨kA, cm, -, -, -, f1⟩ := (hK1.2 6 _ rfl).2
  obtain ⟨kB, cn, -, -, -, f2⟩ := (hKK.2 3 _ rfl).2
  have eA : cA = g.2.1 23 := Option.some.inj (f1.symm.trans f2)
  subst eA
  have he : ent g S I X S.1.length (23, n) = .inl (g.2.1 23, n, .inr (.inr (.inr (.inr (fun _ => none))))) := by
    rw [ent_ref (by decide) (by decide)]
    simp only [hP0]
    rfl
  have hw := wld_push (g := g) (S := S) (S2 := (S.1 ++ [(23, n)], S.2.1, true)) (I := I) (X := X) (q := (23, n)) rfl rfl he
  rw [hw] at hP
  rw [← ad_eq (by omega)]
  exact kk p e s m args below meth c H1 locs (cells + 1) (slots + n) R lsA ⟨hv.1, hv.2.1, ⟨by omega, by omega, fun _ => by show s.heap.size + (cells + 1) = gO g + (S.1 ++ [(23, n)]).length; rw [List.length_append, List.length_singleton]; omega⟩, ⟨hP, by show (S.1 ++ [(23, n)]).length < 900000; rw [List.length_append, List.length_singleton]; omega⟩, hS, hv.2.2.2.2.2⟩ T1 hT1 X1
theorem v_aast {n a j b nb : Nat} {z : Int} (hd : DC (mCc mt) pc .aastore 1 pc2) (ha : S.1[a]? = some (23, n)) (hb : S.1[b]? = some (2, nb)) (hz : z = (j : Int)) (hj : j < n)
    (kk : V l g mt dp Z bc bs pc2 ls st (S.1, upP S.2.1 a j (some b), S.2.2) I X) (hn : n ≤ 2000000 := by decide) : V l g mt dp Z bc bs pc ls (.ref b :: .int (ii z) :: .ref a :: st) S I X := by
  obtain ⟨hd1, rfl⟩ := hd
  intro p e s m args below meth c H locs cells slots R lsA hv
  have hwa := wld_at (g := g) (I := I) (X := X) ha
  have hwb := wld_at (g := g) (I := I) (X := X) hb
  rw [ent_ref (by decide) (by decide)] at hwa
  rw [ent_obj (by decide)] at hwb
  have hix : (ii z).toNatClampNeg = j := ii_ix hz (by omega)
  have hb9 := ad_in hv.2.2.2.1 hb
  have hw : (wld g S I X).set a (gO g + a, .inl (g.2.1 23, n, .inr (.inr (.inr (.inr (va_up (fun i => (S.2.1 a i).map (ad g)) j (some (gO g + b)))))))) = wld g (S.1, upP S.2.1 a j (some b), S.2.2) I X := by
    refine wld_set rfl ha ?_ (fun x hx r => ent_I (if_neg hx) rfl rfl rfl r)
    rw [ent_ref (by decide) (by decide)]
    have : (fun i => (upP S.2.1 a j (some b) a i).map (ad g)) = va_up (fun i => (S.2.1 a i).map (ad g)) j (some (gO g + b)) := by
      funext i
      unfold upP va_up
      rw [if_pos rfl]
      by_cases h : i = j
      · simp [h, hb9]
      · simp [h]
    rw [← this]
  have q := va_astq (rest := st.map (tv g)) (r := (RX2, TX2, 8)) hv.1.1 hv.1.2.1 hv.1.2.2.2.2.2.2.2.2.2.2.1 hv.2.2.2.1.1 (wld_D g S I X) hv.2.2.2.2.1 a 3 b 2 hwa rfl hwb rfl (ii_in hz hj (by omega)) hd1 (fun H1 locs1 hP hD hS => by
    rw [hix] at hP
    exact kk p e s m args below meth c H1 locs1 cells slots R lsA ⟨hv.1, hv.2.1, hv.2.2.1, ⟨by rw [← hw]; exact hP, hv.2.2.2.1.2⟩, hS, hv.2.2.2.2.2⟩)
  rw [← ad_in hv.2.2.2.1 ha, ← hb9] at q
  exact q
/-- Object's constructor -/
def OIo (own : String) (idx : Nat) : Prop := Cond.methodLink own idx Lib.objectInit ∈ lw_good ∧ Cond.instanceMethod Lib.objectInit ∈ lw_good ∧ Cond.code Lib.objectInit ⟨#[0xb1]⟩ 1 none ∈ lw_good
theorem v_obj {idx a : Nat} (hd : DC (mCc mt) pc (.invokespecial idx) 3 pc2) (hL : OIo (mOwn mt) idx) (hdp : 1 ≤ dp) (hst : (st.map fun v => v.category).sum ≤ 8)
    (kk : V l g mt dp Z bc bs pc2 ls st S I X) : V l g mt dp Z bc bs pc ls (.ref a :: st) S I X := by
  obtain ⟨hd1, rfl⟩ := hd
  intro p e s m args below meth c H locs cells slots R lsA hv
  obtain ⟨r1, r2⟩ := hv.2.1
  refine W.objInit (g := F0 m pc lsA (.ref (ad g a) :: st.map (tv g))) hv.1.1 hv.1.2.1 hv.1.2.2.2.2.1 (hv.1.2.2.2.2.2.1 _ hL.1) (hv.1.2.2.2.2.2.1 _ hL.2.1) (hv.1.2.2.2.2.2.1 _ hL.2.2) rfl (by rw [hv.1.2.2.2.1]; exact hv.2.2.2.2.2.1) rfl hd1 (by omega) ?_ ?_
  · rw [cat_sum]
    show 2 * 0 + _ + 12 ≤ R.locals
    omega
  · exact kk p e s m args below meth c H locs cells slots R lsA hv
/-- a call of a method that may throw, by a method without handlers -/
theorem v_callT {mt2 : MT} {dp2 mc ms bc2 bs2 idx n a ci nn : Nat} {As : List Value} {Q2 : QQ} (hd : DC (mCc mt) pc (.invokevirtual idx) 3 pc2) (hL : LKo (wV (mOwn mt) idx mt2) mt2 n) (hh : mHh mt2 = []) (hn : As.length = n) (ha : S.1[a]? = some (ci, nn)) (hci : ci < 20) (hcl : (gCl[ci]?).map (fun q => q.1) = some (mOwn mt2))
    (hC : CT l g mt2 dp2 mc ms (.ref a :: As) S I X Q2) (hdp : dp2 + 1 ≤ dp) (hst : (st.map fun v => v.category).sum ≤ 8) (hno : S.2.2 = false) (hm : mHh mt = []) (hx : ∀ E S2 I2 X2, Q2 (.inr E) S2 I2 X2 → Q (.inr E) S2 I2 X2) (hex : ∀ v S2 I2 X2, Q2 (.inl v) S2 I2 X2 → S2.2.2 = false) (hbc : bc = mc + bc2) (hbs : bs = ms + bs2)
    (k : ∀ v S2 I2 X2, Q2 (.inl v) S2 I2 X2 → V l g mt dp (Zm g Q) bc2 bs2 pc2 ls (v.toList ++ st) S2 I2 X2) : V l g mt dp (Zm g Q) bc bs pc ls (As.reverse ++ .ref a :: st) S I X := by
  obtain ⟨hd1, rfl⟩ := hd
  obtain ⟨hl1, hl2, hl3, hl4, hl5⟩ := id hL
  intro p e s m args below meth c H locs cells slots R lsA hv T hT Xs
  obtain ⟨b1, b2, b3⟩ := hv.2.2.1
  obtain ⟨r1, r2⟩ := hv.2.1
  have hR : ({ frames := dp2, cells := mc, slots := ms, locals := 100 * dp2 } : Room).frames + 1 ≤ R.frames ∧ 8 + (mNL mt2 + 11) + ({ frames := dp2, cells := mc, slots := ms, locals := 100 * dp2 } : Room).locals ≤ R.locals := ⟨by show dp2 + 1 ≤ R.frames; omega, by show 8 + (mNL mt2 + 11) + 100 * dp2 ≤ R.locals; omega⟩
  have hPc : ∀ U : State, U.heap = H → s.WarmedH U.vm → PcM g (.ref a :: As) S I X (Value.ref (ad g a) :: As.map (tv g)).toArray U := fun U hU hW => ⟨rfl, St_call hv.1.2.2.2.2.2.2.2.2.2.2 hv.2.2.2.2.1 hU hW, by rw [hU]; exact hv.2.2.2.1, fun hx => by rw [hno] at hx; cases hx⟩
  have hcat : 2 * (F0 m pc lsA ((As.reverse ++ .ref a :: st).map (tv g))).monitorRoom + ((st.map (tv g)).map fun v => v.category).sum ≤ 8 := by
    rw [cat_sum]
    show 2 * 0 + _ ≤ 8
    omega
  obtain ⟨r, hr1, hr2⟩ : ∃ r : vw_C, gCl[ci]? = some r ∧ r.1 = mOwn mt2 := by
    cases hg : gCl[ci]? with
    | none => rw [hg] at hcl; cases hcl
    | some r => rw [hg] at hcl; exact ⟨r, rfl, Option.some.inj hcl⟩
  have hb := wld_at (g := g) (I := I) (X := X) ha
  rw [ent_obj hci] at hb
  have hrv := va_recv hv.1.2.2.2.2.2.2.2.2.2.2.1 hv.2.2.2.1.1 hr1 hb
  rw [hr2, ← ad_in hv.2.2.2.1 ha] at hrv
  have hrun : vx_Run p l e R s m args below meth c H locs cells slots mc ms (F0 m pc lsA ((As.reverse ++ .ref a :: st).map (tv g))) (st.map (tv g)) (QR g mc Q2 (Value.ref (ad g a) :: As.map (tv g)).toArray) (QX g Q2) (gA g) :=
    vx_runV (n := n) (y := mY mt2) (As := As.map (tv g)) (rest := st.map (tv g)) ⟨hv.1.1, hv.1.2.1, hv.1.2.2.2.1, hv.1.2.2.2.2.1, hv.1.2.2.2.2.2.1⟩ hC (cwV n hv.1.2.2.2.2.2.1 (good_V hL hh) (wsM_nil hh) rfl rfl ⟨rfl, hl2, hl3, hl4⟩ hR) ⟨PcM_blind g _ S I X, hrv, hPc⟩ rfl (by rw [List.length_map]; exact hn) hv.2.2.2.2.2.1 (map_rev g As st a) hcat hd1 ⟨by omega, by omega⟩
  rcases hrun T hT Xs with ⟨v, st₀, t, T', L, h0, X', hL9, e1, e2, ⟨v2, S2, I2, X2, q1, q2, q3, q4, q5⟩, sg⟩ | ⟨q, st₀, t, T', L, E, ce, h0, X', hL9, e1, e2, ⟨S2, I2, X2, q2, q3, q4⟩, hce, hcv, hcl9, sg⟩
  · cases q1
    obtain ⟨-, -, k3⟩ := vx_keep h0 e1 hv.2.2.2.2.1 (fun q _ h => h) (fun q h => h) hL9 q4
    obtain ⟨t2, a1, b9⟩ := k v2 S2 I2 X2 q2 p e s m args below meth c T'.heap (locs ++ L) (cells + mc) (slots + ms) R lsA ⟨hv.1, hv.2.1, ⟨by omega, by omega, fun hx => by rw [hex _ _ _ _ q2] at hx; cases hx⟩, by rw [e1]; exact q3, k3, hv.2.2.2.2.2⟩ T' rfl X'
    refine ⟨t2, sg t2 ?_, b9⟩
    have e9 := map_app g v2 st
    show Steps p.tables e below (T'.setTop (F0 m (pc + 3) lsA ((v2.map (tv g)).toList ++ st.map (tv g)))) t2
    rw [e9]
    exact a1
  · obtain ⟨-, -, k3⟩ := vx_keep h0 e1 hv.2.2.2.2.1 (fun q _ h => h) (fun q h => h) hL9 q4
    have hout : ∀ x ∈ c.exceptionTable.toList, covers x pc = false := fun x hx => by
      rw [hv.1.2.2.2.2.2.2.2.1, hm] at hx
      cases hx
    have w := vx_out (p := p) (l := l) (e := e) (R := R) (m := m) (args := args) (below := below) (rest := st.map (tv g)) (ls := lsA) (Qc := QR g R.cells Q) (XC := QX g Q) (H := T'.heap) (locs := locs ++ L) (cells := cells + mc) (slots := slots + ms) (mc := R.cells) (ms := R.slots) (free := gA g) hout hv.1.2.2.2.2.2.2.1 (by rw [e1]; exact hce) hcv hcl9 (fun t9 ht9 _ => ⟨S2, I2, X2, hx _ _ _ _ q2, by rw [ht9, e1]; exact q3, by rw [ht9]; exact k3.1, fun q h1 h2 => by rw [ht9]; exact k3.2.1 q h1 h2⟩) k3.2.2 (by omega) (by omega)
    obtain ⟨t2, a1, b9⟩ := w T' rfl X'
    exact ⟨t2, sg.trans a1, b9⟩
/-- the handler that takes E at pc, and gives kc back -/
def HDo (mt : MT) (pc : Nat) (E : String) (kc : Int) : Prop := ∃ (pre : List ExceptionTableEntry) (x : ExceptionTableEntry) (suf : List ExceptionTableEntry) (name : String) (i n1 p1 p2 p3 : Nat), tableOf (mHh mt) = pre ++ x :: suf ∧
  (∀ z ∈ pre, covers z pc = false ∨ (z.catchType ≠ 0 ∧ ∃ nm : String, Cond.classLink (mOwn mt) z.catchType nm ∈ lw_good ∧ (E, nm) ∈ ncL)) ∧ covers x pc = true ∧ x.catchType ≠ 0 ∧ Cond.classLink (mOwn mt) x.catchType name ∈ lw_good ∧ Cond.castable E name ∈ lw_tbl ∧
  (DC (mCc mt) x.handlerPc (.astore i) 2 p1 ∨ ∃ kx : Fin 4, (kx : Nat) = i ∧ DC (mCc mt) x.handlerPc (.astore_n kx) 1 p1) ∧ DC (mCc mt) p1 (.iconst kc) 1 p2 ∧ DC (mCc mt) p2 .ireturn 1 p3 ∧ i < mNL mt ∧ mRt mt = some .int ∧ n1 = 0
theorem v_callX {mt2 : MT} {dp2 mc ms bc2 bs2 idx n a ci nn : Nat} {As : List Value} {Q2 : QQ} (hd : DC (mCc mt) pc (.invokevirtual idx) 3 pc2) (hL : LKo (wV (mOwn mt) idx mt2) mt2 n) (hh : mHh mt2 = []) (hn : As.length = n) (ha : S.1[a]? = some (ci, nn)) (hci : ci < 20) (hcl : (gCl[ci]?).map (fun q => q.1) = some (mOwn mt2))
    (hC : CT l g mt2 dp2 mc ms (.ref a :: As) S I X Q2) (hdp : dp2 + 1 ≤ dp) (hst : (st.map fun v => v.category).sum ≤ 8) (hno : S.2.2 = false) (hx : ∀ E S2 I2 X2, Q2 (.inr E) S2 I2 X2 → S2.2.2 = false ∧ ∃ kc, HDo mt pc E kc ∧ Q (.inl (some (.int (ii kc)))) S2 I2 X2) (hex : ∀ v S2 I2 X2, Q2 (.inl v) S2 I2 X2 → S2.2.2 = false) (hbc : bc = mc + bc2) (hbs : bs = ms + bs2)
    (k : ∀ v S2 I2 X2, Q2 (.inl v) S2 I2 X2 → V l g mt dp (Zm g Q) bc2 bs2 pc2 ls (v.toList ++ st) S2 I2 X2) : V l g mt dp (Zm g Q) bc bs pc ls (As.reverse ++ .ref a :: st) S I X := by
  obtain ⟨hd1, rfl⟩ := hd
  obtain ⟨hl1, hl2, hl3, hl4, hl5⟩ := id hL
  intro p e s m args below meth c H locs cells slots R lsA hv T hT Xs
  obtain ⟨b1, b2, b3⟩ := hv.2.2.1
  obtain ⟨r1, r2⟩ := hv.2.1
  have hR : ({ frames := dp2, cells := mc, slots := ms, locals := 100 * dp2 } : Room).frames + 1 ≤ R.frames ∧ 8 + (mNL mt2 + 11) + ({ frames := dp2, cells := mc, slots := ms, locals := 100 * dp2 } : Room).locals ≤ R.locals := ⟨by show dp2 + 1 ≤ R.frames; omega, by show 8 + (mNL mt2 + 11) + 100 * dp2 ≤ R.locals; omega⟩
  have hPc : ∀ U : State, U.heap = H → s.WarmedH U.vm → PcM g (.ref a :: As) S I X (Value.ref (ad g a) :: As.map (tv g)).toArray U := fun U hU hW => ⟨rfl, St_call hv.1.2.2.2.2.2.2.2.2.2.2 hv.2.2.2.2.1 hU hW, by rw [hU]; exact hv.2.2.2.1, fun hx => by rw [hno] at hx; cases hx⟩
  have hcat : 2 * (F0 m pc lsA ((As.reverse ++ .ref a :: st).map (tv g))).monitorRoom + ((st.map (tv g)).map fun v => v.category).sum ≤ 8 := by
    rw [cat_sum]
    show 2 * 0 + _ ≤ 8
    omega
  obtain ⟨r, hr1, hr2⟩ : ∃ r : vw_C, gCl[ci]? = some r ∧ r.1 = mOwn mt2 := by
    cases hg : gCl[ci]? with
    | none => rw [hg] at hcl; cases hcl
    | some r => rw [hg] at hcl; exact ⟨r, rfl, Option.some.inj hcl⟩
  have hb := wld_at (g := g) (I := I) (X := X) ha
  rw [ent_obj hci] at hb
  have hrv := va_recv hv.1.2.2.2.2.2.2.2.2.2.2.1 hv.2.2.2.1.1 hr1 hb
  rw [hr2, ← ad_in hv.2.2.2.1 ha] at hrv
  have hrun : vx_Run p l e R s m args below meth c H locs cells slots mc ms (F0 m pc lsA ((As.reverse ++ .ref a :: st).map (tv g))) (st.map (tv g)) (QR g mc Q2 (Value.ref (ad g a) :: As.map (tv g)).toArray) (QX g Q2) (gA g) :=
    vx_runV (n := n) (y := mY mt2) (As := As.map (tv g)) (rest := st.map (tv g)) ⟨hv.1.1, hv.1.2.1, hv.1.2.2.2.1, hv.1.2.2.2.2.1, hv.1.2.2.2.2.2.1⟩ hC (cwV n hv.1.2.2.2.2.2.1 (good_V hL hh) (wsM_nil hh) rfl rfl ⟨rfl, hl2, hl3, hl4⟩ hR) ⟨PcM_blind g _ S I X, hrv, hPc⟩ rfl (by rw [List.length_map]; exact hn) hv.2.2.2.2.2.1 (map_rev g As st a) hcat hd1 ⟨by omega, by omega⟩
  rcases hrun T hT Xs with ⟨v, st₀, t, T', L, h0, X', hL9, e1, e2, ⟨v2, S2, I2, X2, q1, q2, q3, q4, q5⟩, sg⟩ | ⟨q, st₀, t, T', L, E, ce, h0, X', hL9, e1, e2, ⟨S2, I2, X2, q2, q3, q4⟩, hce, hcv, hcl9, sg⟩
  · cases q1
    obtain ⟨-, -, k3⟩ := vx_keep h0 e1 hv.2.2.2.2.1 (fun q _ h => h) (fun q h => h) hL9 q4
    obtain ⟨t2, a1, b9⟩ := k v2 S2 I2 X2 q2 p e s m args below meth c T'.heap (locs ++ L) (cells + mc) (slots + ms) R lsA ⟨hv.1, hv.2.1, ⟨by omega, by omega, fun hx => by rw [hex _ _ _ _ q2] at hx; cases hx⟩, by rw [e1]; exact q3, k3, hv.2.2.2.2.2⟩ T' rfl X'
    refine ⟨t2, sg t2 ?_, b9⟩
    have e9 := map_app g v2 st
    show Steps p.tables e below (T'.setTop (F0 m (pc + 3) lsA ((v2.map (tv g)).toList ++ st.map (tv g)))) t2
    rw [e9]
    exact a1
  · obtain ⟨-, -, k3⟩ := vx_keep h0 e1 hv.2.2.2.2.1 (fun q _ h => h) (fun q h => h) hL9 q4
    obtain ⟨hf2, kc, ⟨pre, x, suf, name, i, n1, p1, p2, p3, g1, g2, g3, g4, g5, g6, g7, g8, g9, g10, g11, -⟩, hQ⟩ := hx _ _ _ _ q2
    obtain ⟨z1, z2, z3, z4, z5, z6, z7, z8, z9⟩ := hv.1.2.2.2.2.2.2.2.2.2.2
    have fin : ∀ ls9 : Array Slot, W p l e R s m args below meth c T'.heap (locs ++ L) (cells + mc) (slots + ms) (Zm g Q below args s R.cells R.slots) (F0 m p1 ls9 []) := fun ls9 => by
      obtain ⟨g8a, rfl⟩ := g8
      refine lv_iconst hv.1.1 hv.1.2.1 g8a rfl ?_
      refine vx_ret (W.widen (k := R.cells) (n := R.slots) (by omega) (by omega) ?_)
      exact W.iret (v := ii kc) hv.1.1 hv.1.2.1 (hv.1.2.2.1.trans g11) (fun t9 ht9 hW => ⟨some (.int (ii kc)), S2, I2, X2, rfl, hQ, by rw [ht9, e1]; exact q3, k3.F ht9, fun hx => by rw [hf2] at hx; cases hx⟩) k3.2.2 g9.1 (hlocks := hv.1.2.2.2.2.2.2.1)
    have hl0 : lv_has lsA (mNL mt) [] := ⟨hv.2.2.2.2.2.1, hv.2.2.2.2.2.2.1, fun q hq => nomatch hq⟩
    have w : vx_W p l e R s m args below meth c T'.heap (locs ++ L) (cells + mc) (slots + ms) (Zm g Q below args s R.cells R.slots) (F0 m pc lsA (st.map (tv g))) q := by
      refine vx_catch (own := mOwn mt) (name := name) hv.1.2.2.2.2.1 pre x suf (hv.1.2.2.2.2.2.2.2.1.trans g1) (fun z hz => ?_) g3 g4 (hv.1.2.2.2.2.2.1 _ g5) (va_Nw.use rfl (z7 _ g6 rfl)) (by rw [e1]; exact hce) hcv hcl9 ?_
      · rcases g2 z hz with h | ⟨h1, nm, h2, h3⟩
        · exact Or.inl h
        · exact Or.inr ⟨h1, nm, hv.1.2.2.2.2.2.1 _ h2, z9 _ h3⟩
      · rcases g7 with g7 | ⟨kx, hkx, g7⟩
        · obtain ⟨g7, rfl⟩ := g7
          exact lv_astore (lv := []) hv.1.1 hv.1.2.1 g7 hl0 g10 rfl (fun ls9 _ => fin ls9)
        · obtain ⟨g7, rfl⟩ := g7
          exact lv_astore_n (lv := []) hv.1.1 hv.1.2.1 g7 hkx hl0 g10 rfl (fun ls9 _ => fin ls9)
    obtain ⟨t2, a1, b9⟩ := w T' rfl X'
    exact ⟨t2, sg.trans a1, b9⟩
/-- a contract of a method with handlers -/
theorem wsM_cons {mt2 : MT} (h : mHh mt2 ≠ []) : wsM mt2 = Cond.codeWith (mY mt2) (mCc mt2) (mNL mt2) (mRt mt2) (mHh mt2) :: lw_good := by
  unfold wsM
  split
  · contradiction
  · rfl
theorem v_startH {mc ms : Nat} {av : List Value} (hfl : l.stackTraces = false) (hh : mHh mt ≠ []) (hp : plainName (mOwn mt) = true) (hn : (elA av).length ≤ mNL mt) (hls : entL av (mNL mt) = ls)
    (k : V l g mt dp (Zm g Q) mc ms 0 ls [] S I X) : CT l g mt dp mc ms av S I X Q := by
  have hw := wsM_cons hh
  refine vx_ofWH (cc := mCc mt) (maxL := mNL mt) (ret := mRt mt) (hh := mHh mt) (ws' := lw_good) hp hw ?_
  intro p e s m args below meth c s₁ B hml hv
  obtain ⟨rfl, hSt, hSim, hEx⟩ := hv
  have hts := atoms_spec (ws := wsM mt) B.pre
  have hl := lv_entry (av.map (tv g)) (n := mNL mt) (by rw [elA_len]; exact hn)
  rw [lg_entry_eq]
  generalize (lg_sl (av.map (tv g)) ++ List.replicate (mNL mt - (lg_sl (av.map (tv g))).length) Slot.unset).toArray = lsA at hl ⊢
  refine k p e s m _ below meth c s.heap [] 0 0 _ lsA ⟨⟨B.exec, B.bytes, B.returns, hml, findClass_of_methodNamed B.named, fun w h => hts w (by rw [hw]; exact List.mem_cons_of_mem _ h), B.notSynchronized, vx_table (x := mY mt) B (hts _ (by rw [hw]; exact List.mem_cons_self)), (name_of_methodNamed B.named B.method).1, hfl, hSt⟩, ⟨Nat.le_refl _, Nat.le_refl _⟩, ⟨Nat.zero_add _, Nat.zero_add _, hEx⟩, hSim, va_S.rf, ?_⟩
  refine LH_of hl (by rw [← hls]; unfold entL; rw [List.length_append, List.length_replicate]; omega) fun i u hu => ?_
  rw [← hls] at hu
  unfold entL at hu
  have h0 : i < (elA av).length := by
    rcases Nat.lt_or_ge i (elA av).length with h | h
    · exact h
    · rw [List.getElem?_append_right h] at hu
      have := List.eq_of_mem_replicate (List.mem_of_getElem? hu)
      cases this
  rw [List.getElem?_append_left h0] at hu
  have := elA_mem (g := g) av 0 i u hu
  rwa [Nat.zero_add] at this
def wW (own : String) (idx : Nat) (mt2 : MT) : List Cond := [.methodLink own idx (mY mt2), .static (mY mt2), .initialized (mOwn mt2), .codeWith (mY mt2) (mCc mt2) (mNL mt2) (mRt mt2) (mHh mt2)]
theorem v_callW {mt2 : MT} {dp2 mc ms bc2 bs2 idx n : Nat} {As : List Value} {Q2 : QQ} (hd : DC (mCc mt) pc (.invokestatic idx) 3 pc2) (hL : LKo (wW (mOwn mt) idx mt2) mt2 n) (hh : mHh mt2 ≠ []) (hn : As.length = n)
    (hC : CT l g mt2 dp2 mc ms As S I X Q2) (hdp : dp2 + 1 ≤ dp) (hst : (st.map fun v => v.category).sum ≤ 8) (hno : S.2.2 = false) (hx : ∀ E S I X, ¬ Q2 (.inr E) S I X) (hex : ∀ v S2 I2 X2, Q2 (.inl v) S2 I2 X2 → S2.2.2 = false) (hbc : bc = mc + bc2) (hbs : bs = ms + bs2)
    (k : ∀ v S2 I2 X2, Q2 (.inl v) S2 I2 X2 → V l g mt dp Z bc2 bs2 pc2 ls (v.toList ++ st) S2 I2 X2) : V l g mt dp Z bc bs pc ls (As.reverse ++ st) S I X := by
  obtain ⟨hd1, rfl⟩ := hd
  obtain ⟨hl1, hl2, hl3, hl4, hl5⟩ := id hL
  intro p e s m args below meth c H locs cells slots R lsA hv
  obtain ⟨b1, b2, b3⟩ := hv.2.2.1
  obtain ⟨r1, r2⟩ := hv.2.1
  have hR : ({ frames := dp2, cells := mc, slots := ms, locals := 100 * dp2 } : Room).frames + 1 ≤ R.frames ∧ 8 + (mNL mt2 + 11) + ({ frames := dp2, cells := mc, slots := ms, locals := 100 * dp2 } : Room).locals ≤ R.locals := ⟨by show dp2 + 1 ≤ R.frames; omega, by show 8 + (mNL mt2 + 11) + 100 * dp2 ≤ R.locals; omega⟩
  have hPc : ∀ U : State, U.heap = H → s.WarmedH U.vm → PcM g As S I X (As.map (tv g)).toArray U := fun U hU hW => ⟨rfl, St_call hv.1.2.2.2.2.2.2.2.2.2.2 hv.2.2.2.2.1 hU hW, by rw [hU]; exact hv.2.2.2.1, fun hx => by rw [hno] at hx; cases hx⟩
  have hcat : 2 * (F0 m pc lsA ((As.reverse ++ st).map (tv g))).monitorRoom + ((st.map (tv g)).map fun v => v.category).sum ≤ 8 := by
    rw [cat_sum]
    show 2 * 0 + _ ≤ 8
    omega
  have hgood : GoodIn lw_good (va_wsS (mOwn mt) idx (mY mt2) (wsM mt2)) := by
    apply good_all
    intro w hw
    rw [wsM_cons hh] at hw
    simp only [va_wsS, List.cons_append, List.nil_append, List.mem_cons] at hw
    rcases hw with rfl | rfl | rfl | rfl | hw
    · exact hl1 _ (by simp [wW])
    · exact hl1 _ (by simp [wW])
    · exact hl1 _ (by simp [wW])
    · exact hl1 _ (by simp [wW])
    · exact hw
  have hrun : va_Run p l e R s m args below meth c H locs cells slots mc ms (F0 m pc lsA ((As.reverse ++ st).map (tv g))) (st.map (tv g)) (QR g mc Q2 (As.map (tv g)).toArray) (gA g) :=
    vx_runSW (n := n) (y := mY mt2) (As := As.map (tv g)) (rest := st.map (tv g)) ⟨hv.1.1, hv.1.2.1, hv.1.2.2.2.1, hv.1.2.2.2.2.1, hv.1.2.2.2.2.2.1⟩ (CT_met hC hx) (vx_cwSW n hv.1.2.2.2.2.2.1 hgood (wsM_cons hh) rfl rfl ⟨hl2, hl3, hl4⟩ hR) ⟨PcM_blind g _ S I X, hPc⟩ rfl (by rw [List.length_map]; exact hn) hv.2.2.2.2.2.1 (map_revS g As st) hcat hd1 ⟨by omega, by omega⟩
  refine v_run hrun hv.2.2.2.2.1 (fun v S2 I2 X2 H1 locs1 q1 q2 q3 q4 => ?_)
  rw [map_app]
  exact k v S2 I2 X2 q1 p e s m args below meth c H1 locs1 (cells + mc) (slots + ms) R lsA ⟨hv.1, hv.2.1, ⟨by omega, by omega, fun hx => by rw [hex v S2 I2 X2 q1] at hx; cases hx⟩, q2, q3, hv.2.2.2.2.2⟩
end FG
