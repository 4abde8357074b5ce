/-! THE FRAME, E: ends of methods, calls, copies -/
theorem CT_met {l : Launch} {g : GV} {mt : MT} {dp mc ms : Nat} {av : List Value} {S : SS} {I : II} {X : XX} {Q : QQ} (h : CT l g mt dp mc ms av S I X Q) (hx : ∀ E S I X, ¬ Q (.inr E) S I X) :
    Met l (mY mt) (wsM mt) ({ frames := dp, cells := mc, slots := ms, locals := 100 * dp }) (PcM g av S I X) (QR g mc Q) mc ms (gA g) := by
  intro p e ha hc hk s m args below hf happ hP hK
  obtain ⟨n, o, h1, h2, h3, h4⟩ := h p e ha hc hk s m args below hf happ hP hK
  refine ⟨n, o, h1, h2, h3, ?_⟩
  rcases h4 with h | ⟨q, -, E, ce, L, ⟨S2, I2, X2, hq, -⟩, -⟩
  · exact h
  · exact absurd hq (hx E S2 I2 X2)
/-- a contract says less -/
theorem CT_mono {l : Launch} {g : GV} {mt : MT} {dp mc ms : Nat} {av : List Value} {S : SS} {I : II} {X : XX} {Q Q2 : QQ} (h : CT l g mt dp mc ms av S I X Q) (hq : ∀ o S I X, Q o S I X → Q2 o S I X) : CT l g mt dp mc ms av S I X Q2 := by
  intro p e ha hc hk s m args below hf happ hP hK
  obtain ⟨n, o, h1, h2, h3, h4⟩ := h p e ha hc hk s m args below hf happ hP hK
  refine ⟨n, o, h1, h2, h3, ?_⟩
  rcases h4 with ⟨⟨v, S2, I2, X2, q1, q2, q3⟩, h⟩ | ⟨q, ho, E, ce, L, ⟨S2, I2, X2, q2, q3⟩, h⟩
  · exact Or.inl ⟨⟨v, S2, I2, X2, q1, hq _ _ _ _ q2, q3⟩, h⟩
  · exact Or.inr ⟨q, ho, E, ce, L, ⟨S2, I2, X2, hq _ _ _ _ q2, q3⟩, h⟩
theorem Sim_size {g : GV} {S : SS} {I : II} {X : XX} {H : Heap} (h : Sim g S I X H) (ho : gO g ≤ H.size) : gO g + S.1.length ≤ H.size := by
  cases hl : S.1.length with
  | zero => exact ho
  | succ n =>
    obtain ⟨q, hq⟩ : ∃ q, S.1[n]? = some q := ⟨S.1[n], List.getElem?_eq_getElem (by omega)⟩
    have := (h.1 n _ (wld_at hq)).lt
    omega
section FE
variable {l : Launch} {g : GV} {mt : MT} {dp bc bs pc pc2 : Nat} {Z : ZZ} {ls : List (Option Value)} {st : List Value} {S : SS} {I : II} {X : XX} {Q : QQ}
theorem v_iret {x : Int32} (hd : DC (mCc mt) pc .ireturn 1 pc2) (hrt : mRt mt = some .int) (hq : Q (.inl (some (.int x))) S I X) (hbc : S.2.2 = true → bc = 0) : V l g mt dp (Zm g Q) bc bs pc ls [.int x] S I X := by
  obtain ⟨hd1, rfl⟩ := hd
  intro p e s m args below meth c H locs cells slots R lsA hv
  obtain ⟨hb1, hb2, hb3⟩ := hv.2.2.1
  refine vx_ret (W.widen (k := R.cells) (n := R.slots) (by omega) (by omega) ?_)
  exact W.iret hv.1.1 hv.1.2.1 (hv.1.2.2.1.trans hrt) (fun t ht hW => ⟨(some (.int x)), S, I, X, rfl, hq, by rw [ht]; exact hv.2.2.2.1, hv.2.2.2.2.1.F ht, fun hx => by have h1 := hb3 hx; have h2 := hbc hx; omega⟩) hv.2.2.2.2.1.2.2 hd1 (hlocks := hv.1.2.2.2.2.2.2.1)
theorem v_zret {z : Int} (hd : DC (mCc mt) pc .ireturn 1 pc2) (hrt : mRt mt = some .boolean) (hz : z = 0 ∨ z = 1) (hq : Q (.inl (some (.int (ii z)))) S I X) (hbc : S.2.2 = true → bc = 0) : V l g mt dp (Zm g Q) bc bs pc ls [.int (ii z)] S I X := by
  obtain ⟨hd1, rfl⟩ := hd
  intro p e s m args below meth c H locs cells slots R lsA hv
  obtain ⟨hb1, hb2, hb3⟩ := hv.2.2.1
  refine vx_ret (W.widen (k := R.cells) (n := R.slots) (by omega) (by omega) ?_)
  exact W.zret hv.1.1 hv.1.2.1 (hv.1.2.2.1.trans hrt) (by rcases hz with rfl | rfl <;> decide) (fun t ht hW => ⟨(some (.int (ii z))), S, I, X, rfl, hq, by rw [ht]; exact hv.2.2.2.1, hv.2.2.2.2.1.F ht, fun hx => by have h1 := hb3 hx; have h2 := hbc hx; omega⟩) hv.2.2.2.2.1.2.2 hd1 (hlocks := hv.1.2.2.2.2.2.2.1)
theorem v_lret {x : Int64} (hd : DC (mCc mt) pc .lreturn 1 pc2) (hrt : mRt mt = some .long) (hq : Q (.inl (some (.long x))) S I X) (hbc : S.2.2 = true → bc = 0) : V l g mt dp (Zm g Q) bc bs pc ls [.long x] S I X := by
  obtain ⟨hd1, rfl⟩ := hd
  intro p e s m args below meth c H locs cells slots R lsA hv
  obtain ⟨hb1, hb2, hb3⟩ := hv.2.2.1
  refine vx_ret (W.widen (k := R.cells) (n := R.slots) (by omega) (by omega) ?_)
  exact W.lret hv.1.1 hv.1.2.1 (hv.1.2.2.1.trans hrt) (fun t ht hW => ⟨(some (.long x)), S, I, X, rfl, hq, by rw [ht]; exact hv.2.2.2.1, hv.2.2.2.2.1.F ht, fun hx => by have h1 := hb3 hx; have h2 := hbc hx; omega⟩) hv.2.2.2.2.1.2.2 hd1 (hlocks := hv.1.2.2.2.2.2.2.1)
theorem v_fret {x : UInt32} (hd : DC (mCc mt) pc .freturn 1 pc2) (hrt : mRt mt = some .float) (hq : Q (.inl (some (.float x))) S I X) (hbc : S.2.2 = true → bc = 0) : V l g mt dp (Zm g Q) bc bs pc ls [.float x] S I X := by
  obtain ⟨hd1, rfl⟩ := hd
  intro p e s m args below meth c H locs cells slots R lsA hv
  obtain ⟨hb1, hb2, hb3⟩ := hv.2.2.1
  refine vx_ret (W.widen (k := R.cells) (n := R.slots) (by omega) (by omega) ?_)
  exact W.fret hv.1.1 hv.1.2.1 (hv.1.2.2.1.trans hrt) (fun t ht hW => ⟨(some (.float x)), S, I, X, rfl, hq, by rw [ht]; exact hv.2.2.2.1, hv.2.2.2.2.1.F ht, fun hx => by have h1 := hb3 hx; have h2 := hbc hx; omega⟩) hv.2.2.2.2.1.2.2 hd1 (hlocks := hv.1.2.2.2.2.2.2.1)
theorem v_vret (hd : DC (mCc mt) pc .return_ 1 pc2) (hrt : mRt mt = none) (hq : Q (.inl none) S I X) (hbc : S.2.2 = true → bc = 0) : V l g mt dp (Zm g Q) bc bs pc ls [] S I X := by
  obtain ⟨hd1, rfl⟩ := hd
  intro p e s m args below meth c H locs cells slots R lsA hv
  obtain ⟨hb1, hb2, hb3⟩ := hv.2.2.1
  refine vx_ret (W.widen (k := R.cells) (n := R.slots) (by omega) (by omega) ?_)
  exact W.vret hv.1.1 hv.1.2.1 (hv.1.2.2.1.trans hrt) (fun t ht hW => ⟨none, S, I, X, rfl, hq, by rw [ht]; exact hv.2.2.2.1, hv.2.2.2.2.1.F ht, fun hx => by have h1 := hb3 hx; have h2 := hbc hx; omega⟩) hv.2.2.2.2.1.2.2 hd1 (hlocks := hv.1.2.2.2.2.2.2.1)
theorem v_aret {a : Nat} {rt : FieldType} (hd : DC (mCc mt) pc .areturn 1 pc2) (hrt : mRt mt = some rt) (hrf : (∃ n, rt = .object n) ∨ ∃ t, rt = .array t) (hq : Q (.inl (some (.ref a))) S I X) (hbc : S.2.2 = true → bc = 0) : V l g mt dp (Zm g Q) bc bs pc ls [.ref a] S I X := by
  obtain ⟨hd1, rfl⟩ := hd
  intro p e s m args below meth c H locs cells slots R lsA hv
  obtain ⟨hb1, hb2, hb3⟩ := hv.2.2.1
  refine vx_ret (W.widen (k := R.cells) (n := R.slots) (by omega) (by omega) ?_)
  exact W.aret hv.1.1 hv.1.2.1 (hv.1.2.2.1.trans hrt) hrf (Or.inr ⟨_, rfl⟩) (fun t ht hW => ⟨(some (.ref a)), S, I, X, rfl, hq, by rw [ht]; exact hv.2.2.2.1, hv.2.2.2.2.1.F ht, fun hx => by have h1 := hb3 hx; have h2 := hbc hx; omega⟩) hv.2.2.2.2.1.2.2 hd1 (hlocks := hv.1.2.2.2.2.2.2.1)
/-- behind a call that returned -/
theorem v_run {p : Program} {e : Env} {R : Room} {s : State} {m : MethodId} {args a : Array Value} {below : List Frame} {meth : Method} {c : Code} {H : Heap} {locs : List Loc} {cells slots mc ms : Nat} {QF : State → Prop} {g0 : JFrame} {rest : List Value} {Q2 : QQ}
    (hr : va_Run p l e R s m args below meth c H locs cells slots mc ms g0 rest (QR g mc Q2 a) (gA g)) (hS : va_S (gA g) s.heap H locs)
    (kk : ∀ (v : Option Value) (S2 : SS) (I2 : II) (X2 : XX) (H1 : Heap) (locs1 : List Loc), Q2 (.inl v) S2 I2 X2 → Sim g S2 I2 X2 H1 → va_S (gA g) s.heap H1 locs1 → (S2.2.2 = true → H.size + mc = gO g + S2.1.length) →
      W p l e R s m args below meth c H1 locs1 (cells + mc) (slots + ms) QF { g0 with pc := g0.pc + 3, stack := (v.map (tv g)).toList ++ rest }) : W p l e R s m args below meth c H locs cells slots QF g0 := by
  intro T hT Xs
  obtain ⟨v, st₀, t, T', L, h0, X', hL, e1, e2, ⟨v2, S2, I2, X2, q1, q2, q3, q4, q5⟩, st⟩ := hr T hT Xs
  cases q1
  obtain ⟨-, -, k3⟩ := vx_keep h0 e1 hS (fun q _ h => h) (fun q h => h) hL q4
  obtain ⟨t2, a1, b1⟩ := kk v2 S2 I2 X2 T'.heap (locs ++ L) q2 (by rw [e1]; exact q3) k3 (fun hx => by rw [← h0]; exact q5 hx) T' rfl X'
  exact ⟨t2, st t2 a1, b1⟩
theorem map_app (g : GV) (v : Option Value) (st : List Value) : (v.map (tv g)).toList ++ st.map (tv g) = (v.toList ++ st).map (tv g) := by cases v <;> rfl
theorem map_rev (g : GV) (As st : List Value) (a : Nat) : (As.reverse ++ .ref a :: st).map (tv g) = (As.map (tv g)).reverse ++ .ref (ad g a) :: st.map (tv g) := by
  rw [List.map_append, List.map_reverse]
  rfl
theorem map_revS (g : GV) (As st : List Value) : (As.reverse ++ st).map (tv g) = (As.map (tv g)).reverse ++ st.map (tv g) := by
  rw [List.map_append, List.map_reverse]
theorem cat_sum (g : GV) (st : List Value) : ((st.map (tv g)).map fun v => v.category).sum = (st.map fun v => v.category).sum := by
  rw [List.map_map]
  congr 1
  apply List.map_congr_left
  intro v _
  exact tv_cat g v
/-- what links a call: by the tables' words -/
def LKo (ws : List Cond) (mt2 : MT) (n : Nat) : Prop := (∀ w ∈ ws, w ∈ lw_good) ∧ mOwn mt2 ≠ "java/lang/invoke/MethodHandle" ∧ mOwn mt2 ≠ "java/lang/invoke/VarHandle" ∧ (parseMethodDescriptor (mDs mt2)).map (fun d => d.parameters.length) = some n ∧ mNL mt2 ≤ 60
def wV (own : String) (idx : Nat) (mt2 : MT) : List Cond := [.methodLink own idx (mY mt2), .instanceMethod (mY mt2), .selects (mOwn mt2) (mY mt2) (mY mt2), .initialized (mOwn mt2), .code (mY mt2) (mCc mt2) (mNL mt2) (mRt mt2)]
def wS (own : String) (idx : Nat) (mt2 : MT) : List Cond := [.methodLink own idx (mY mt2), .static (mY mt2), .initialized (mOwn mt2), .code (mY mt2) (mCc mt2) (mNL mt2) (mRt mt2)]
def wI (own : String) (idx : Nat) (mt2 : MT) : List Cond := [.methodLink own idx (mY mt2), .instanceMethod (mY mt2), .initialized (mOwn mt2), .code (mY mt2) (mCc mt2) (mNL mt2) (mRt mt2)]
def wN (mt2 : MT) : List Cond := [.static (mY mt2), .initialized (mOwn mt2), .code (mY mt2) (mCc mt2) (mNL mt2) (mRt mt2)]
theorem wsM_nil {mt2 : MT} (h : mHh mt2 = []) : wsM mt2 = Cond.code (mY mt2) (mCc mt2) (mNL mt2) (mRt mt2) :: lw_good := by
  unfold wsM
  rw [h]
theorem good_all {ws : List Cond} (h : ∀ w ∈ ws, w ∈ lw_good) : GoodIn lw_good ws := fun w hw => ⟨h w hw, good_of_word (lw_good_ok w (h w hw))⟩
theorem good_V {own : String} {idx n : Nat} {mt2 : MT} (h : LKo (wV own idx mt2) mt2 n) (hh : mHh mt2 = []) : GoodIn lw_good (wsV own idx (mOwn mt2) (mY mt2) (wsM mt2)) := by
  apply good_all
  intro w hw
  rw [wsM_nil hh] at hw
  simp only [wsV, List.cons_append, List.nil_append, List.mem_cons] at hw
  rcases hw with rfl | rfl | rfl | rfl | rfl | hw
  · exact h.1 _ (by simp [wV])
  · exact h.1 _ (by simp [wV])
  · exact h.1 _ (by simp [wV])
  · exact h.1 _ (by simp [wV])
  · exact h.1 _ (by simp [wV])
  · exact hw
theorem good_S {own : String} {idx n : Nat} {mt2 : MT} (h : LKo (wS own idx mt2) mt2 n) (hh : mHh mt2 = []) : GoodIn lw_good (va_wsS own idx (mY mt2) (wsM mt2)) := by
  apply good_all
  intro w hw
  rw [wsM_nil hh] at hw
  simp only [va_wsS, List.cons_append, List.nil_append, List.mem_cons] at hw
  rcases hw with rfl | rfl | rfl | rfl | hw
  · exact h.1 _ (by simp [wS])
  · exact h.1 _ (by simp [wS])
  · exact h.1 _ (by simp [wS])
  · exact h.1 _ (by simp [wS])
  · exact hw
theorem good_M {ws : List Cond} {n : Nat} {mt2 : MT} (h : LKo ws mt2 n) (hc : Cond.code (mY mt2) (mCc mt2) (mNL mt2) (mRt mt2) ∈ ws) (hh : mHh mt2 = []) : GoodIn lw_good (wsM mt2) := by
  apply good_all
  intro w hw
  rw [wsM_nil hh] at hw
  rcases List.mem_cons.mp hw with rfl | hw
  · exact h.1 _ hc
  · exact hw
/-- a call by invokevirtual of a method that returns -/
theorem v_callV {mt2 : MT} {dp2 mc ms bc2 bs2 idx n a ci nn : Nat} {As : List Value} {Q2 : QQ} (hd : DC (mCc mt) pc (.invokevirtual idx) 3 pc2) (hL : LKo (wV (mOwn mt) idx mt2) mt2 n) (hh : mHh mt2 = []) (hn : As.length = n) (ha : S.1[a]? = some (ci, nn)) (hci : ci < 20) (hcl : (gCl[ci]?).map (fun q => q.1) = some (mOwn mt2))
    (hC : CT l g mt2 dp2 mc ms (.ref a :: As) S I X Q2) (hdp : dp2 + 1 ≤ dp) (hst : (st.map fun v => v.category).sum ≤ 8) (hx : ∀ E S I X, ¬ Q2 (.inr E) S I X) (hex : ∀ v S2 I2 X2, Q2 (.inl v) S2 I2 X2 → S2.2.2 = true → S.2.2 = true) (hbc : bc = mc + bc2) (hbs : bs = ms + bs2)
    (k : ∀ v S2 I2 X2, Q2 (.inl v) S2 I2 X2 → V l g mt dp Z bc2 bs2 pc2 ls (v.toList ++ st) S2 I2 X2) : V l g mt dp Z bc bs pc ls (As.reverse ++ .ref a :: st) S I X := by
  obtain ⟨hd1, rfl⟩ := hd
  obtain ⟨hl1, hl2, hl3, hl4, hl5⟩ := id hL
  intro p e s m args below meth c H locs cells slots R lsA hv T hT Xs
  obtain ⟨b1, b2, b3⟩ := hv.2.2.1
  obtain ⟨r1, r2⟩ := hv.2.1
  have hho : gO g ≤ H.size := Nat.le_trans hv.1.2.2.2.2.2.2.2.2.2.2.2.2.2.1 hv.2.2.2.2.1.1
  have hub : H.size ≤ s.heap.size + cells := by rw [← hT]; exact Xs.heapSize
  have hlb := Sim_size hv.2.2.2.1 hho
  have hsz : S.2.2 = true → H.size = gO g + S.1.length := fun hx => by have := b3 hx; omega
  have hR : ({ frames := dp2, cells := mc, slots := ms, locals := 100 * dp2 } : Room).frames + 1 ≤ R.frames ∧ 8 + (mNL mt2 + 11) + ({ frames := dp2, cells := mc, slots := ms, locals := 100 * dp2 } : Room).locals ≤ R.locals := ⟨by show dp2 + 1 ≤ R.frames; omega, by show 8 + (mNL mt2 + 11) + 100 * dp2 ≤ R.locals; omega⟩
  have hPc : ∀ U : State, U.heap = H → s.WarmedH U.vm → PcM g (.ref a :: As) S I X (Value.ref (ad g a) :: As.map (tv g)).toArray U := fun U hU hW => ⟨rfl, St_call hv.1.2.2.2.2.2.2.2.2.2.2 hv.2.2.2.2.1 hU hW, by rw [hU]; exact hv.2.2.2.1, by rw [hU]; exact hsz⟩
  have hcat : 2 * (F0 m pc lsA ((As.reverse ++ .ref a :: st).map (tv g))).monitorRoom + ((st.map (tv g)).map fun v => v.category).sum ≤ 8 := by
    rw [cat_sum]
    show 2 * 0 + _ ≤ 8
    omega
  have hrun : va_Run p l e R s m args below meth c H locs cells slots mc ms (F0 m pc lsA ((As.reverse ++ .ref a :: st).map (tv g))) (st.map (tv g)) (QR g mc Q2 (Value.ref (ad g a) :: As.map (tv g)).toArray) (gA g) := by
    obtain ⟨r, hr1, hr2⟩ : ∃ r : vw_C, gCl[ci]? = some r ∧ r.1 = mOwn mt2 := by
      cases hg : gCl[ci]? with
      | none => rw [hg] at hcl; cases hcl
      | some r => rw [hg] at hcl; exact ⟨r, rfl, Option.some.inj hcl⟩
    have hb := wld_at (g := g) (I := I) (X := X) ha
    rw [ent_obj hci] at hb
    have hrv := va_recv hv.1.2.2.2.2.2.2.2.2.2.2.1 hv.2.2.2.1.1 hr1 hb
    rw [hr2, ← ad_in hv.2.2.2.1 ha] at hrv
    exact va_runV (n := n) (y := mY mt2) (As := As.map (tv g)) (rest := st.map (tv g)) ⟨hv.1.1, hv.1.2.1, hv.1.2.2.2.1, hv.1.2.2.2.2.1, hv.1.2.2.2.2.2.1⟩ (CT_met hC hx) (cwV n hv.1.2.2.2.2.2.1 (good_V hL hh) (wsM_nil hh) rfl rfl ⟨rfl, hl2, hl3, hl4⟩ hR) ⟨PcM_blind g _ S I X, hrv, hPc⟩ rfl (by rw [List.length_map]; exact hn) hv.2.2.2.2.2.1 (map_rev g As st a) hcat hd1 ⟨by omega, by omega⟩
  refine v_run hrun hv.2.2.2.2.1 (fun v S2 I2 X2 H1 locs1 q1 q2 q3 q4 => ?_) T hT Xs
  rw [map_app]
  exact k v S2 I2 X2 q1 p e s m args below meth c H1 locs1 (cells + mc) (slots + ms) R lsA ⟨hv.1, hv.2.1, ⟨by omega, by omega, fun hx => by have h1 := q4 hx; have h2 := hsz (hex v S2 I2 X2 q1 hx); have h3 := b3 (hex v S2 I2 X2 q1 hx); omega⟩, q2, q3, hv.2.2.2.2.2⟩
/-- a call by invokestatic of a method that returns -/
theorem v_callS {mt2 : MT} {dp2 mc ms bc2 bs2 idx n : Nat} {As : List Value} {Q2 : QQ} (hd : DC (mCc mt) pc (.invokestatic idx) 3 pc2) (hL : LKo (wS (mOwn mt) idx mt2) mt2 n) (hh : mHh mt2 = []) (hn : As.length = n) 
    (hC : CT l g mt2 dp2 mc ms As S I X Q2) (hdp : dp2 + 1 ≤ dp) (hst : (st.map fun v => v.category).sum ≤ 8) (hx : ∀ E S I X, ¬ Q2 (.inr E) S I X) (hex : ∀ v S2 I2 X2, Q2 (.inl v) S2 I2 X2 → S2.2.2 = true → S.2.2 = true) (hbc : bc = mc + bc2) (hbs : bs = ms + bs2)
    (k : ∀ v S2 I2 X2, Q2 (.inl v) S2 I2 X2 → V l g mt dp Z bc2 bs2 pc2 ls (v.toList ++ st) S2 I2 X2) : V l g mt dp Z bc bs pc ls (As.reverse ++ st) S I X := by
  obtain ⟨hd1, rfl⟩ := hd
  obtain ⟨hl1, hl2, hl3, hl4, hl5⟩ := id hL
  intro p e s m args below meth c H locs cells slots R lsA hv T hT Xs
  obtain ⟨b1, b2, b3⟩ := hv.2.2.1
  obtain ⟨r1, r2⟩ := hv.2.1
  have hho : gO g ≤ H.size := Nat.le_trans hv.1.2.2.2.2.2.2.2.2.2.2.2.2.2.1 hv.2.2.2.2.1.1
  have hub : H.size ≤ s.heap.size + cells := by rw [← hT]; exact Xs.heapSize
  have hlb := Sim_size hv.2.2.2.1 hho
  have hsz : S.2.2 = true → H.size = gO g + S.1.length := fun hx => by have := b3 hx; omega
  have hR : ({ frames := dp2, cells := mc, slots := ms, locals := 100 * dp2 } : Room).frames + 1 ≤ R.frames ∧ 8 + (mNL mt2 + 11) + ({ frames := dp2, cells := mc, slots := ms, locals := 100 * dp2 } : Room).locals ≤ R.locals := ⟨by show dp2 + 1 ≤ R.frames; omega, by show 8 + (mNL mt2 + 11) + 100 * dp2 ≤ R.locals; omega⟩
  have hPc : ∀ U : State, U.heap = H → s.WarmedH U.vm → PcM g As S I X (As.map (tv g)).toArray U := fun U hU hW => ⟨rfl, St_call hv.1.2.2.2.2.2.2.2.2.2.2 hv.2.2.2.2.1 hU hW, by rw [hU]; exact hv.2.2.2.1, by rw [hU]; exact hsz⟩
  have hcat : 2 * (F0 m pc lsA ((As.reverse ++ st).map (tv g))).monitorRoom + ((st.map (tv g)).map fun v => v.category).sum ≤ 8 := by
    rw [cat_sum]
    show 2 * 0 + _ ≤ 8
    omega
  have hrun : va_Run p l e R s m args below meth c H locs cells slots mc ms (F0 m pc lsA ((As.reverse ++ st).map (tv g))) (st.map (tv g)) (QR g mc Q2 (As.map (tv g)).toArray) (gA g) := by
    exact va_runS (n := n) (y := mY mt2) (As := As.map (tv g)) (rest := st.map (tv g)) ⟨hv.1.1, hv.1.2.1, hv.1.2.2.2.1, hv.1.2.2.2.2.1, hv.1.2.2.2.2.2.1⟩ (CT_met hC hx) (va_cwS n hv.1.2.2.2.2.2.1 (good_S hL hh) (wsM_nil hh) rfl rfl ⟨hl2, hl3, hl4⟩ hR) ⟨PcM_blind g _ S I X, hPc⟩ rfl (by rw [List.length_map]; exact hn) hv.2.2.2.2.2.1 (map_revS g As st) hcat hd1 ⟨by omega, by omega⟩
  refine v_run hrun hv.2.2.2.2.1 (fun v S2 I2 X2 H1 locs1 q1 q2 q3 q4 => ?_) T hT Xs
  rw [map_app]
  exact k v S2 I2 X2 q1 p e s m args below meth c H1 locs1 (cells + mc) (slots + ms) R lsA ⟨hv.1, hv.2.1, ⟨by omega, by omega, fun hx => by have h1 := q4 hx; have h2 := hsz (hex v S2 I2 X2 q1 hx); have h3 := b3 (hex v S2 I2 X2 q1 hx); omega⟩, q2, q3, hv.2.2.2.2.2⟩
/-- a call of a static method of a nest mate -/
theorem v_callN {mt2 : MT} {dp2 mc ms bc2 bs2 idx n : Nat} {As : List Value} {Q2 : QQ} (hd : DC (mCc mt) pc (.invokestatic idx) 3 pc2) (hL : LKo (wN mt2) mt2 n) (hh : mHh mt2 = []) (hn : As.length = n) {host : String} (hnb : Cond.methodLinkNest (mOwn mt) idx (mY mt2) host ∈ lw_tbl)
    (hC : CT l g mt2 dp2 mc ms As S I X Q2) (hdp : dp2 + 1 ≤ dp) (hst : (st.map fun v => v.category).sum ≤ 8) (hx : ∀ E S I X, ¬ Q2 (.inr E) S I X) (hex : ∀ v S2 I2 X2, Q2 (.inl v) S2 I2 X2 → S2.2.2 = true → S.2.2 = true) (hbc : bc = mc + bc2) (hbs : bs = ms + bs2)
    (k : ∀ v S2 I2 X2, Q2 (.inl v) S2 I2 X2 → V l g mt dp Z bc2 bs2 pc2 ls (v.toList ++ st) S2 I2 X2) : V l g mt dp Z bc bs pc ls (As.reverse ++ st) S I X := by
  obtain ⟨hd1, rfl⟩ := hd
  obtain ⟨hl1, hl2, hl3, hl4, hl5⟩ := id hL
  intro p e s m args below meth c H locs cells slots R lsA hv T hT Xs
  obtain ⟨b1, b2, b3⟩ := hv.2.2.1
  obtain ⟨r1, r2⟩ := hv.2.1
  have hho : gO g ≤ H.size := Nat.le_trans hv.1.2.2.2.2.2.2.2.2.2.2.2.2.2.1 hv.2.2.2.2.1.1
  have hub : H.size ≤ s.heap.size + cells := by rw [← hT]; exact Xs.heapSize
  have hlb := Sim_size hv.2.2.2.1 hho
  have hsz : S.2.2 = true → H.size = gO g + S.1.length := fun hx => by have := b3 hx; omega
  have hR : ({ frames := dp2, cells := mc, slots := ms, locals := 100 * dp2 } : Room).frames + 1 ≤ R.frames ∧ 8 + (mNL mt2 + 11) + ({ frames := dp2, cells := mc, slots := ms, locals := 100 * dp2 } : Room).locals ≤ R.locals := ⟨by show dp2 + 1 ≤ R.frames; omega, by show 8 + (mNL mt2 + 11) + 100 * dp2 ≤ R.locals; omega⟩
  have hPc : ∀ U : State, U.heap = H → s.WarmedH U.vm → PcM g As S I X (As.map (tv g)).toArray U := fun U hU hW => ⟨rfl, St_call hv.1.2.2.2.2.2.2.2.2.2.2 hv.2.2.2.2.1 hU hW, by rw [hU]; exact hv.2.2.2.1, by rw [hU]; exact hsz⟩
  have hcat : 2 * (F0 m pc lsA ((As.reverse ++ st).map (tv g))).monitorRoom + ((st.map (tv g)).map fun v => v.category).sum ≤ 8 := by
    rw [cat_sum]
    show 2 * 0 + _ ≤ 8
    omega
  have hrun : va_Run p l e R s m args below meth c H locs cells slots mc ms (F0 m pc lsA ((As.reverse ++ st).map (tv g))) (st.map (tv g)) (QR g mc Q2 (As.map (tv g)).toArray) (gA g) := by
    have hnw : va_Nw (.methodLinkNest (mOwn mt) idx (mY mt2) host) s := hv.1.2.2.2.2.2.2.2.2.2.2.2.2.2.2.2.2.1 _ hnb rfl
    exact va_runSN (n := n) (y := mY mt2) (As := As.map (tv g)) (rest := st.map (tv g)) ⟨hv.1.1, hv.1.2.1, hv.1.2.2.2.1, hv.1.2.2.2.2.1, hv.1.2.2.2.2.2.1⟩ (CT_met hC hx) ⟨va_cnB n hv.1.2.2.2.2.2.1 (good_M hL (by simp [wN]) hh) (wsM_nil hh) rfl rfl hnw (hv.1.2.2.2.2.2.1 _ (hl1 _ (by simp [wN]))) ⟨hl2, hl3, hl4⟩ hR, hv.1.2.2.2.2.2.1 _ (hl1 _ (by simp [wN])), trivial⟩ ⟨PcM_blind g _ S I X, hPc⟩ rfl (by rw [List.length_map]; exact hn) hv.2.2.2.2.2.1 (map_revS g As st) hcat hd1 ⟨by omega, by omega⟩
  refine v_run hrun hv.2.2.2.2.1 (fun v S2 I2 X2 H1 locs1 q1 q2 q3 q4 => ?_) T hT Xs
  rw [map_app]
  exact k v S2 I2 X2 q1 p e s m args below meth c H1 locs1 (cells + mc) (slots + ms) R lsA ⟨hv.1, hv.2.1, ⟨by omega, by omega, fun hx => by have h1 := q4 hx; have h2 := hsz (hex v S2 I2 X2 q1 hx); have h3 := b3 (hex v S2 I2 X2 q1 hx); omega⟩, q2, q3, hv.2.2.2.2.2⟩
/-- a call of a constructor -/
theorem v_callI {mt2 : MT} {dp2 mc ms bc2 bs2 idx n a : Nat} {As : List Value} {Q2 : QQ} (hd : DC (mCc mt) pc (.invokespecial idx) 3 pc2) (hL : LKo (wI (mOwn mt) idx mt2) mt2 n) (hh : mHh mt2 = []) (hn : As.length = n) (hnm : mNm mt2 = "<init>") (hvd : mRt mt2 = none)
    (hC : CT l g mt2 dp2 mc ms (.ref a :: As) S I X Q2) (hdp : dp2 + 1 ≤ dp) (hst : (st.map fun v => v.category).sum ≤ 8) (hx : ∀ E S I X, ¬ Q2 (.inr E) S I X) (hex : ∀ v S2 I2 X2, Q2 (.inl v) S2 I2 X2 → S2.2.2 = true → S.2.2 = true) (hbc : bc = mc + bc2) (hbs : bs = ms + bs2)
    (k : ∀ v S2 I2 X2, Q2 (.inl v) S2 I2 X2 → V l g mt dp Z bc2 bs2 pc2 ls (v.toList ++ st) S2 I2 X2) : V l g mt dp Z bc bs pc ls (As.reverse ++ .ref a :: st) S I X := by
  obtain ⟨hd1, rfl⟩ := hd
  obtain ⟨hl1, hl2, hl3, hl4, hl5⟩ := id hL
  intro p e s m args below meth c H locs cells slots R lsA hv T hT Xs
  obtain ⟨b1, b2, b3⟩ := hv.2.2.1
  obtain ⟨r1, r2⟩ := hv.2.1
  have hho : gO g ≤ H.size := Nat.le_trans hv.1.2.2.2.2.2.2.2.2.2.2.2.2.2.1 hv.2.2.2.2.1.1
  have hub : H.size ≤ s.heap.size + cells := by rw [← hT]; exact Xs.heapSize
  have hlb := Sim_size hv.2.2.2.1 hho
  have hsz : S.2.2 = true → H.size = gO g + S.1.length := fun hx => by have := b3 hx; omega
  have hR : ({ frames := dp2, cells := mc, slots := ms, locals := 100 * dp2 } : Room).frames + 1 ≤ R.frames ∧ 8 + (mNL mt2 + 11) + ({ frames := dp2, cells := mc, slots := ms, locals := 100 * dp2 } : Room).locals ≤ R.locals := ⟨by show dp2 + 1 ≤ R.frames; omega, by show 8 + (mNL mt2 + 11) + 100 * dp2 ≤ R.locals; omega⟩
  have hPc : ∀ U : State, U.heap = H → s.WarmedH U.vm → PcM g (.ref a :: As) S I X (Value.ref (ad g a) :: As.map (tv g)).toArray U := fun U hU hW => ⟨rfl, St_call hv.1.2.2.2.2.2.2.2.2.2.2 hv.2.2.2.2.1 hU hW, by rw [hU]; exact hv.2.2.2.1, by rw [hU]; exact hsz⟩
  have hcat : 2 * (F0 m pc lsA ((As.reverse ++ .ref a :: st).map (tv g))).monitorRoom + ((st.map (tv g)).map fun v => v.category).sum ≤ 8 := by
    rw [cat_sum]
    show 2 * 0 + _ ≤ 8
    omega
  have hrun : va_Run p l e R s m args below meth c H locs cells slots mc ms (F0 m pc lsA ((As.reverse ++ .ref a :: st).map (tv g))) (st.map (tv g)) (QR g mc Q2 (Value.ref (ad g a) :: As.map (tv g)).toArray) (gA g) := by
    have hw := wsM_nil hh
    rw [hvd] at hw
    exact va_runI (n := n) (y := mY mt2) (As := As.map (tv g)) (rest := st.map (tv g)) ⟨hv.1.1, hv.1.2.1, hv.1.2.2.2.1, hv.1.2.2.2.2.1, hv.1.2.2.2.2.2.1⟩ (CT_met hC hx) (cwI n hv.1.2.2.2.2.2.1 (good_M hL (by simp [wI]) hh) hw rfl rfl (hv.1.2.2.2.2.2.1 _ (hl1 _ (by simp [wI]))) (hv.1.2.2.2.2.2.1 _ (hl1 _ (by simp [wI]))) (hv.1.2.2.2.2.2.1 _ (hl1 _ (by simp [wI]))) hnm ⟨hl2, hl3, hl4⟩ hR) ⟨PcM_blind g _ S I X, hPc⟩ rfl (by rw [List.length_map]; exact hn) hv.2.2.2.2.2.1 (map_rev g As st a) hcat hd1 ⟨by omega, by omega⟩
  refine v_run hrun hv.2.2.2.2.1 (fun v S2 I2 X2 H1 locs1 q1 q2 q3 q4 => ?_) T hT Xs
  rw [map_app]
  exact k v S2 I2 X2 q1 p e s m args below meth c H1 locs1 (cells + mc) (slots + ms) R lsA ⟨hv.1, hv.2.1, ⟨by omega, by omega, fun hx => by have h1 := q4 hx; have h2 := hsz (hex v S2 I2 X2 q1 hx); have h3 := b3 (hex v S2 I2 X2 q1 hx); omega⟩, q2, q3, hv.2.2.2.2.2⟩
/-- a row of numbers copied -/
def cpy (I : II) (a0 a sp dp n : Nat) : II := fun b => if b = a then (fun j => if dp ≤ j ∧ j < dp + n then I a0 (sp + (j - dp)) else I a j) else I b
theorem cpy_ne {I : II} {a0 a sp dp n b : Nat} (h : b ≠ a) : cpy I a0 a sp dp n b = I b := if_neg h
theorem cpy_at {I : II} {a0 a sp dp n : Nat} : cpy I a0 a sp dp n a = fun j => if dp ≤ j ∧ j < dp + n then I a0 (sp + (j - dp)) else I a j := if_pos rfl
def CYo (own : String) (idx : Nat) : Prop := ∀ w ∈ ([.methodLink own idx arraycopyName, .native arraycopyName, .static arraycopyName, .initialized "java/lang/System"] : List Cond), w ∈ lw_good
theorem v_copy {idx a0 a n0 n1 sp dq n : Nat} {z1 z2 z3 : Int} (hd : DC (mCc mt) pc (.invokestatic idx) 3 pc2) (hL : CYo (mOwn mt) idx) (ha0 : S.1[a0]? = some (20, n0)) (ha : S.1[a]? = some (20, n1)) (h1 : z1 = (sp : Int)) (h2 : z2 = (dq : Int)) (h3 : z3 = (n : Int)) (h4 : sp + n ≤ n0) (h5 : dq + n ≤ n1) (hdp : 1 ≤ dp) (hst : (st.map fun v => v.category).sum ≤ 8)
    (kk : V l g mt dp Z bc bs pc2 ls st S (cpy I a0 a sp dq n) X) (h6 : n0 ≤ 2000000 := by decide) (h7 : n1 ≤ 2000000 := by decide) : V l g mt dp Z bc bs pc ls (.int (ii z3) :: .int (ii z2) :: .ref a :: .int (ii z1) :: .ref a0 :: st) S I X := by
  obtain ⟨hd1, rfl⟩ := hd
  intro p e s m args below meth c H locs cells slots R lsA hv
  have hb0 := wld_at (g := g) (I := I) (X := X) ha0
  have hb := wld_at (g := g) (I := I) (X := X) ha
  rw [ent_int (by decide) (by decide)] at hb0 hb
  obtain ⟨r1, r2⟩ := hv.2.1
  have e1 : (ii z1).toNatClampNeg = sp := ii_ix h1 (by omega)
  have e2 : (ii z2).toNatClampNeg = dq := ii_ix h2 (by omega)
  have e3 : (ii z3).toNatClampNeg = n := ii_ix h3 (by omega)
  have nn : ∀ (z : Int) (j : Nat), z = (j : Int) → j < 2147483648 → ¬ ii z < 0 := fun z j h hj q => by
    rw [ii_0, ii_lt (by omega) (by omega)] at q
    omega
  have hw : (wld g S I X).set a (gO g + a, .inl (g.2.1 20, n1, .inl (va_cpy (fun j => ii (I a0 j)) (fun j => ii (I a j)) sp dq n))) = wld g S (cpy I a0 a sp dq n) X := by
    refine wld_set rfl ha ?_ (fun b hb2 r => ent_I rfl (cpy_ne hb2) rfl rfl r)
    rw [ent_int (by decide) (by decide), cpy_at]
    have : (fun j => ii (if dq ≤ j ∧ j < dq + n then I a0 (sp + (j - dq)) else I a j)) = va_cpy (fun j => ii (I a0 j)) (fun j => ii (I a j)) sp dq n := by
      funext j
      unfold va_cpy
      split <;> rfl
    rw [this]
  have hc : ((st.map (tv g)).map fun v => v.category).sum + (nativeFrameWords "java/lang/System" "arraycopy" 5 + 11) ≤ R.locals := by
    rw [cat_sum]
    have : nativeFrameWords "java/lang/System" "arraycopy" 5 + 11 ≤ 90 := by decide
    omega
  have q := va_copyi (rest := st.map (tv g)) (ty := .int) hv.1.1 hv.1.2.1 (hv.1.2.2.2.1.trans hv.2.2.2.2.2.1.symm) hv.1.2.2.2.2.1 (hv.1.2.2.2.2.2.1 _ (hL _ (by simp))) (hv.1.2.2.2.2.2.1 _ (hL _ (by simp))) (hv.1.2.2.2.2.2.1 _ (hL _ (by simp))) (hv.1.2.2.2.2.2.1 _ (hL _ (by simp)))
    hv.1.2.2.2.2.2.2.2.2.2.2.1 hv.2.2.2.1.1 (wld_D g S I X) hv.2.2.2.2.1 a0 a 0 0 hb0 hb rfl rfl rfl (nn z1 sp h1 (by omega)) (nn z2 dq h2 (by omega)) (nn z3 n h3 (by omega)) (by rw [e1, e3]; exact h4) (by rw [e2, e3]; exact h5) (fun i _ => rfl) (by omega) hc hd1 (fun H1 locs1 hP hD hS => by
    rw [e1, e2, e3] at hP
    exact kk p e s m args below meth c H1 locs1 cells slots R lsA ⟨hv.1, hv.2.1, hv.2.2.1, ⟨by rw [← hw]; exact hP, hv.2.2.2.1.2⟩, hS, hv.2.2.2.2.2⟩)
  rw [← ad_in hv.2.2.2.1 ha, ← ad_in hv.2.2.2.1 ha0] at q
  exact q
end FE
