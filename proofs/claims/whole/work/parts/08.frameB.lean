/-! THE FRAME, B: what stands at a method's start, contracts, the judgement V -/
def lw_nb : Cond → Bool
  | .castable .. => true
  | .methodLinkNest .. => true
  | .arrayOver _ => true
  | .declares _ => true
  | _ => false
theorem nb_warm {w : Cond} (h : lw_nb w = true) {s U : State} (hW : s.WarmedH U.vm) (hb : w.before #[] s = true) : w.before #[] U = true := by
  cases w <;> first | exact va_Nw.warmC hW hb | exact va_Nw.warmM hW hb | exact va_Nw.warmD hW hb | skip
  all_goals first | (cases h; done) | skip
  rename_i ty
  have h2 := Cond.arrayOver_setVmC (args := #[]) hW.alike ty
  rw [hb] at h2
  exact h2
def lw_good : List Cond := lw_tbl.filter goodWord
theorem lw_good_in : ∀ w ∈ lw_good, w ∈ lw_tbl := fun _ h => (List.mem_filter.mp h).1
theorem lw_good_ok : ∀ w ∈ lw_good, goodWord w = true := fun _ h => (List.mem_filter.mp h).2
/-- the word w stands in the tables at place i, and is a good one -/
def atT (i : Nat) (w : Cond) : Bool := decide (lw_tbl[i]? = some w) && goodWord w
theorem atT_in {w : Cond} (i : Nat) (h : atT i w = true) : w ∈ lw_good := by
  unfold atT at h
  simp only [Bool.and_eq_true, decide_eq_true_eq] at h
  exact List.mem_filter.mpr ⟨List.mem_of_getElem? h.1, h.2⟩
def ncL : List (String × String) := [("java/lang/IllegalStateException", "java/lang/IllegalArgumentException"), ("java/lang/IllegalArgumentException", "java/lang/IndexOutOfBoundsException"), ("java/lang/ArithmeticException", "java/lang/IndexOutOfBoundsException")]
def St (g : GV) (s : State) (H : Heap) : Prop := va_K g.1 gCl (tysG g) s ∧ va_X (gB g) (gL g) (gXs g) s H ∧ gB g < gO g ∧ gO g ≤ H.size ∧ vx_Zq Bundle.tN "UNASSIGNED_STACK" Bundle.steD (gA g) s H ∧ vx_Zq Bundle.tN "SUPPRESSED_SENTINEL" Bundle.listD (gA g) s H ∧ (∀ w ∈ lw_tbl, lw_nb w = true → w.before #[] s = true) ∧ (∀ (own : String) (k : Nat) (tx : String), Cond.stringRef own k tx ∈ lw_tbl → ∃ sa : Nat, vk_R own k tx sa s) ∧ ∀ q ∈ ncL, va_Nc q.1 q.2 s
theorem St_call {g : GV} {s U : State} {H : Heap} {locs : List Loc} (h : St g s s.heap) (hS : va_S (gA g) s.heap H locs) (hU : U.heap = H) (hW : s.WarmedH U.vm) : St g U U.heap := by
  obtain ⟨h1, h2, h3, h4, h5, h6, h7, h8, h9⟩ := h
  have hb : H[gB g]? = s.heap[gB g]? := hS.2.1 (gB g) (Nat.lt_of_lt_of_le h3 h4) (Nat.not_le.mpr h3)
  rw [hU]
  refine ⟨va_K.moved hW.alike h1, va_X.moved hW.alike (h2.kept hb), h3, Nat.le_trans h4 hS.1, vx_Zq.moved hW.alike (h5.kept hS.2.1), vx_Zq.moved hW.alike (h6.kept hS.2.1), fun w hw hn => nb_warm hn hW (h7 w hw hn), fun own k tx hw => ?_, fun q hq => va_Nc.moved hW.alike (h9 q hq)⟩
  obtain ⟨sa, hsa⟩ := h8 own k tx hw
  exact ⟨sa, vk_R.warm hW hsa⟩
abbrev QQ : Type := (Option Value ⊕ String) → SS → II → XX → Prop
def QR (g : GV) (mc : Nat) (Q : QQ) : Array Value → State → Outcome → State → Prop := fun _ st o t => ∃ (v : Option Value) (S : SS) (I : II) (X : XX), o = .returned (v.map (tv g)) ∧ Q (.inl v) S I X ∧ Sim g S I X t.heap ∧ va_F (gA g) st t ∧ (S.2.2 = true → st.heap.size + mc = gO g + S.1.length)
def QX (g : GV) (Q : QQ) : String → State → State → Prop := fun E st t => ∃ (S : SS) (I : II) (X : XX), Q (.inr E) S I X ∧ Sim g S I X t.heap ∧ va_F (gA g) st t
def wsM (mt : MT) : List Cond := match mHh mt with
  | [] => Cond.code (mY mt) (mCc mt) (mNL mt) (mRt mt) :: lw_good
  | hh => Cond.codeWith (mY mt) (mCc mt) (mNL mt) (mRt mt) hh :: lw_good
def PcM (g : GV) (av : List Value) (S : SS) (I : II) (X : XX) : Array Value → State → Prop := va_Pc (av.map (tv g)) (fun U => St g U U.heap ∧ Sim g S I X U.heap ∧ (S.2.2 = true → U.heap.size = gO g + S.1.length))
/-- a method's contract: from these arguments and cells it ends with Q; at most mc cells of ms slots are new -/
def CT (l : Launch) (g : GV) (mt : MT) (dp mc ms : Nat) (av : List Value) (S : SS) (I : II) (X : XX) (Q : QQ) : Prop :=
  vx_Met l (mY mt) (wsM mt) ({ frames := dp, cells := mc, slots := ms, locals := 100 * dp }) (PcM g av S I X) (QR g mc Q) (QX g Q) mc ms (gA g)
theorem PcM_blind (g : GV) (av : List Value) (S : SS) (I : II) (X : XX) : FrameBlind (PcM g av S I X) := by
  intro a U f mk h
  obtain ⟨h1, h2, h3, h4⟩ := h
  have hh : (U.calling f mk a).heap = U.heap := rfl
  refine ⟨h1, St_call h2 (va_S.rf (A := gA g)) hh (State.WarmedH.refl U), ?_⟩
  rw [hh]
  exact ⟨h3, h4⟩
def Ctx (l : Launch) (g : GV) (mt : MT) (p : Program) (s : State) (m : MethodId) (args : Array Value) (meth : Method) (c : Code) : Prop :=
  p.tables.exec = Jvm.exec ∧ c.code = mCc mt ∧ meth.sig.returnType = mRt mt ∧ c.maxLocals = mNL mt ∧ s.vm.findClass (mOwn mt) = some m.cls ∧ (∀ w ∈ lw_good, w.before args s = true) ∧ meth.locks = false ∧ c.exceptionTable.toList = tableOf (mHh mt) ∧ meth.name = mNm mt ∧ l.stackTraces = false ∧ St g s s.heap
def VX (l : Launch) (g : GV) (mt : MT) (dp bc bs : Nat) (ls : List (Option Value)) (S : SS) (I : II) (X : XX) (p : Program) (s : State) (m : MethodId) (args : Array Value) (meth : Method) (c : Code) (H : Heap) (locs : List Loc) (cells slots : Nat) (R : Room) (lsA : Array Slot) : Prop :=
  Ctx l g mt p s m args meth c ∧ (dp ≤ R.frames ∧ 100 * dp ≤ R.locals) ∧ (cells + bc = R.cells ∧ slots + bs = R.slots ∧ (S.2.2 = true → s.heap.size + cells = gO g + S.1.length)) ∧ Sim g S I X H ∧ va_S (gA g) s.heap H locs ∧ LH g lsA (mNL mt) ls
abbrev ZZ : Type := List Frame → Array Value → State → Nat → Nat → State → Prop
/-- from this place of the method, with these locals, this stack and these cells, it comes to its end -/
def V (l : Launch) (g : GV) (mt : MT) (dp : Nat) (Z : ZZ) (bc bs pc : Nat) (ls : List (Option Value)) (st : List Value) (S : SS) (I : II) (X : XX) : Prop :=
  ∀ (p : Program) (e : Env) (s : State) (m : MethodId) (args : Array Value) (below : List Frame) (meth : Method) (c : Code) (H : Heap) (locs : List Loc) (cells slots : Nat) (R : Room) (lsA : Array Slot),
    VX l g mt dp bc bs ls S I X p s m args meth c H locs cells slots R lsA →
    W p l e R s m args below meth c H locs cells slots (Z below args s R.cells R.slots) (F0 m pc lsA (st.map (tv g)))
def Zm (g : GV) (Q : QQ) : ZZ := fun below args s mc ms => vx_MQ below (QR g mc Q) (QX g Q) args s mc ms (gA g)
/-- the locals at a method's start -/
def elA : List Value → List (Option Value)
  | [] => []
  | v :: r => some v :: (if v.category = 2 then none :: elA r else elA r)
def entL (av : List Value) (n : Nat) : List (Option Value) := elA av ++ List.replicate (n - (elA av).length) none
theorem elA_mem {g : GV} : ∀ (av : List Value) (n i : Nat) (u : Value), (elA av)[i]? = some (some u) → (n + i, tv g u) ∈ lv_args n (av.map (tv g))
  | [], _, _, _, h => by simp [elA] at h
  | v :: r, n, 0, u, h => by
    have h2 : v = u := by simpa [elA] using h
    subst h2
    exact List.mem_cons_self
  | v :: r, n, i + 1, u, h => by
    refine List.mem_cons_of_mem _ ?_
    show (n + (i + 1), tv g u) ∈ lv_args (if (tv g v).category = 2 then n + 2 else n + 1) (r.map (tv g))
    rw [tv_cat]
    by_cases hc : v.category = 2
    · rw [if_pos hc]
      have h3 : (none :: elA r)[i]? = some (some u) := by simpa [elA, hc] using h
      cases i with
      | zero => simp at h3
      | succ i =>
        have h4 := elA_mem (g := g) r (n + 2) i u (by simpa using h3)
        rw [show n + (i + 1 + 1) = n + 2 + i by omega]
        exact h4
    · rw [if_neg hc]
      have h3 : (elA r)[i]? = some (some u) := by simpa [elA, hc] using h
      have h4 := elA_mem (g := g) r (n + 1) i u h3
      rw [show n + (i + 1) = n + 1 + i by omega]
      exact h4
theorem elA_len (av : List Value) (g : GV) : (lg_sl (av.map (tv g))).length = (elA av).length := by
  induction av with
  | nil => rfl
  | cons v r ih =>
    show (lg_sl (tv g v :: r.map (tv g))).length = _
    have h1 : (lg_sl (tv g v :: r.map (tv g))).length = (if v.category = 2 then 2 else 1) + (lg_sl (r.map (tv g))).length := by
      cases v <;> simp [lg_sl, tv, Value.category] <;> omega
    rw [h1, ih]
    by_cases hc : v.category = 2
    · simp [elA, hc]; omega
    · simp [elA, hc]; omega
theorem v_start {l : Launch} {g : GV} {mt : MT} {dp mc ms : Nat} {av : List Value} {S : SS} {I : II} {X : XX} {Q : QQ} {ls : List (Option Value)} (hfl : l.stackTraces = false) (hh : mHh mt = []) (hp : plainName (mOwn mt) = true) (hn : (elA av).length ≤ mNL mt) (hls : entL av (mNL mt) = ls)
    (k : V l g mt dp (Zm g Q) mc ms 0 ls [] S I X) : CT l g mt dp mc ms av S I X Q := by
  have hw : wsM mt = Cond.code (mY mt) (mCc mt) (mNL mt) (mRt mt) :: lw_good := by
    unfold wsM
    rw [hh]
  refine vx_ofW (cc := mCc mt) (maxL := mNL mt) (ret := mRt mt) (ws' := lw_good) hp hw ?_
  intro p e s m args below meth c s₁ B hml hx hv
  obtain ⟨rfl, hSt, hSim, hEx⟩ := hv
  have hts := atoms_spec (ws := wsM mt) B.pre
  have hl := lv_entry (av.map (tv g)) (n := mNL mt) (by rw [elA_len]; exact hn)
  rw [lg_entry_eq]
  generalize (lg_sl (av.map (tv g)) ++ List.replicate (mNL mt - (lg_sl (av.map (tv g))).length) Slot.unset).toArray = lsA at hl ⊢
  refine k p e s m _ below meth c s.heap [] 0 0 _ lsA ⟨⟨B.exec, B.bytes, B.returns, hml, findClass_of_methodNamed B.named, fun w h => hts w (by rw [hw]; exact List.mem_cons_of_mem _ h), B.notSynchronized, ?_, (name_of_methodNamed B.named B.method).1, hfl, hSt⟩, ⟨Nat.le_refl _, Nat.le_refl _⟩, ⟨Nat.zero_add _, Nat.zero_add _, hEx⟩, hSim, va_S.rf, ?_⟩
  · rw [hh]
    cases ht : c.exceptionTable.toList with
    | nil => rfl
    | cons x r => exact (hx x (by rw [ht]; exact List.mem_cons_self)).elim
  · refine LH_of hl (by rw [← hls]; unfold entL; rw [List.length_append, List.length_replicate]; omega) fun i u hu => ?_
    rw [← hls] at hu
    unfold entL at hu
    have h0 : i < (elA av).length := by
      rcases Nat.lt_or_ge i (elA av).length with h | h
      · exact h
      · rw [List.getElem?_append_right h] at hu
        have := List.eq_of_mem_replicate (List.mem_of_getElem? hu)
        cases this
    rw [List.getElem?_append_left h0] at hu
    have := elA_mem (g := g) av 0 i u hu
    rwa [Nat.zero_add] at this
