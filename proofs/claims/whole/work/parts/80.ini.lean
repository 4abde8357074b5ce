/-! BEGINNINGS: cells that are made; what stays when more are made -/
/-- n cells are made, what lies behind is blank -/
def Nw (S : SS) (n : Nat) (I : II) : Prop := S.2.2 = true ∧ S.1.length = n ∧ (∀ x j, n ≤ x → S.2.1 x j = none) ∧ (∀ x j, n ≤ x → I x j = 0)
def XB (S S2 : SS) (n : Nat) : Prop := ∀ x, x < n → S2.1[x]? = S.1[x]? ∧ ∀ j, S2.2.1 x j = S.2.1 x j
def Xq (S S2 : SS) (a n : Nat) : Prop := ∀ x, x < n → S2.1[x]? = S.1[x]? ∧ (x ≠ a → ∀ j, S2.2.1 x j = S.2.1 x j)
def Rw (S : SS) (a : Nat) (l : List (Option Nat)) : Prop := ∀ j, S.2.1 a j = l.getD j none
theorem XB.xq {S S2 : SS} {a n : Nat} (h : XB S S2 n) : Xq S S2 a n := fun x hx => ⟨(h x hx).1, fun _ => (h x hx).2⟩
theorem Xq.tr {S S2 S3 : SS} {a n m : Nat} (h : Xq S S2 a n) (h2 : Xq S2 S3 a m) (hm : n ≤ m) : Xq S S3 a n := fun x hx => ⟨(h2 x (by omega)).1.trans (h x hx).1, fun hn j => ((h2 x (by omega)).2 hn j).trans ((h x hx).2 hn j)⟩
theorem Xq.le {S S2 : SS} {a n m : Nat} (h : Xq S S2 a m) (hm : n ≤ m) : Xq S S2 a n := fun x hx => h x (by omega)
theorem Xq.xb {S S2 : SS} {a n : Nat} (h : Xq S S2 a n) (hn : n ≤ a) : XB S S2 n := fun x hx => ⟨(h x hx).1, (h x hx).2 (by omega)⟩
theorem XB.tr {S S2 S3 : SS} {n m : Nat} (h : XB S S2 n) (h2 : XB S2 S3 m) (hm : n ≤ m) : XB S S3 n := fun x hx => ⟨(h2 x (by omega)).1.trans (h x hx).1, fun j => ((h2 x (by omega)).2 j).trans ((h x hx).2 j)⟩
theorem XB.le {S S2 : SS} {n m : Nat} (h : XB S S2 m) (hm : n ≤ m) : XB S S2 n := fun x hx => h x (by omega)
theorem Rw.xb {S S2 : SS} {a n : Nat} {l : List (Option Nat)} (h : Rw S a l) (hX : XB S S2 n) (ha : a < n) : Rw S2 a l := fun j => ((hX a ha).2 j).trans (h j)
theorem isEl_x {S S2 : SS} {a n e : Nat} (h : isEl S e) (hX : Xq S S2 a n) (hn : e + 31 ≤ n) (ha : a < e ∨ e + 31 ≤ a) : isEl S2 e := by
  obtain ⟨y0, y1, y1a, y2, y2a, y3, y3a, y4, y4a, y5, y5a, yr⟩ := h
  have hc : ∀ x, x < n → S2.1[x]? = S.1[x]? := fun x hx => (hX x hx).1
  have hp : ∀ x, x < n → x ≠ a → ∀ j, S2.2.1 x j = S.2.1 x j := fun x hx => (hX x hx).2
  have p0 := hp e (by omega) (by omega)
  have p1 := hp (e + 5) (by omega) (by omega)
  exact ⟨(hc e (by omega)).trans y0, (p0 1).trans y1, (hc (e + 1) (by omega)).trans y1a, (p0 3).trans y2, (hc (e + 2) (by omega)).trans y2a, (p0 5).trans y3, (hc (e + 3) (by omega)).trans y3a, (p0 6).trans y4, (hc (e + 4) (by omega)).trans y4a, (p0 7).trans y5, (hc (e + 5) (by omega)).trans y5a, fun r hr => ⟨(p1 r).trans (yr r hr).1, (hc (e + 6 + r) (by omega)).trans (yr r hr).2⟩⟩
theorem isRes_x {S S2 : SS} {a n r : Nat} (h : isRes S r) (hX : Xq S S2 a n) (hn : r + 13 ≤ n) (ha : a < r ∨ r + 13 ≤ a) : isRes S2 r := by
  obtain ⟨y0, y1, y1a, y2, y2a, y3, y3a, yr⟩ := h
  have hc : ∀ x, x < n → S2.1[x]? = S.1[x]? := fun x hx => (hX x hx).1
  have hp : ∀ x, x < n → x ≠ a → ∀ j, S2.2.1 x j = S.2.1 x j := fun x hx => (hX x hx).2
  have p0 := hp r (by omega) (by omega)
  have p1 := hp (r + 3) (by omega) (by omega)
  exact ⟨(hc r (by omega)).trans y0, (p0 2).trans y1, (hc (r + 1) (by omega)).trans y1a, (p0 3).trans y2, (hc (r + 2) (by omega)).trans y2a, (p0 4).trans y3, (hc (r + 3) (by omega)).trans y3a, fun k hk => ⟨(p1 k).trans (yr k hk).1, (hc (r + 4 + k) (by omega)).trans (yr k hk).2⟩⟩
theorem isFat_x {S S2 : SS} {a n r : Nat} (h : isFat S r) (hX : Xq S S2 a n) (hn : r + 4 ≤ n) (ha : a < r ∨ r + 4 ≤ a) : isFat S2 r := by
  obtain ⟨y0, y1, y1a, y2, y2a, y3, y3a⟩ := h
  have hc : ∀ x, x < n → S2.1[x]? = S.1[x]? := fun x hx => (hX x hx).1
  have hp : ∀ x, x < n → x ≠ a → ∀ j, S2.2.1 x j = S.2.1 x j := fun x hx => (hX x hx).2
  have p0 := hp r (by omega) (by omega)
  exact ⟨(hc r (by omega)).trans y0, (p0 0).trans y1, (hc (r + 1) (by omega)).trans y1a, (p0 1).trans y2, (hc (r + 2) (by omega)).trans y2a, (p0 2).trans y3, (hc (r + 3) (by omega)).trans y3a⟩
theorem isChs_x {S S2 : SS} {a n h e r : Nat} (hh : isChs S h e r) (hX : Xq S S2 a n) (hn : h + 1 ≤ n) (ha : a ≠ h) : isChs S2 h e r := by
  obtain ⟨y0, y1, y2⟩ := hh
  have p0 := (hX h (by omega)).2 (fun e => ha e.symm)
  exact ⟨(hX h (by omega)).1.trans y0, (p0 0).trans y1, (p0 1).trans y2⟩
theorem isTxt_x {S S2 : SS} {a n r : Nat} (h : isTxt S r) (hX : Xq S S2 a n) (hn : r + 3 ≤ n) (ha : a < r ∨ r + 3 ≤ a) : isTxt S2 r := by
  obtain ⟨y0, y1, y1a, y2, y2a⟩ := h
  have p0 := (hX r (by omega)).2 (by omega)
  exact ⟨(hX r (by omega)).1.trans y0, (p0 0).trans y1, (hX (r + 1) (by omega)).1.trans y1a, (p0 1).trans y2, (hX (r + 2) (by omega)).1.trans y2a⟩
theorem isLog_x {S S2 : SS} {a n f : Nat} (h : isLog S f) (hX : Xq S S2 a n) (hn : f + 28 ≤ n) (ha : a < f ∨ f + 28 ≤ a) : isLog S2 f := by
  obtain ⟨l0, ⟨l1, l1a⟩, ⟨l2, l2a⟩, ⟨l3, l3a⟩, ⟨l4, l4a⟩, ⟨l5, l5a⟩, ⟨l6, l6a⟩, ⟨l7, l7a⟩, ⟨l8, l8a⟩, lr, ⟨l9, l9a⟩, lw⟩ := h
  have hc : ∀ x, x < n → S2.1[x]? = S.1[x]? := fun x hx => (hX x hx).1
  have hp : ∀ x, x < n → x ≠ a → ∀ j, S2.2.1 x j = S.2.1 x j := fun x hx => (hX x hx).2
  have p0 := hp f (by omega) (by omega)
  have p1 := hp (f + 8) (by omega) (by omega)
  have p2 := hp (f + 18) (by omega) (by omega)
  exact ⟨(hc f (by omega)).trans l0, ⟨(p0 0).trans l1, (hc (f + 1) (by omega)).trans l1a⟩, ⟨(p0 1).trans l2, (hc (f + 2) (by omega)).trans l2a⟩, ⟨(p0 2).trans l3, (hc (f + 3) (by omega)).trans l3a⟩, ⟨(p0 3).trans l4, (hc (f + 4) (by omega)).trans l4a⟩, ⟨(p0 4).trans l5, (hc (f + 5) (by omega)).trans l5a⟩, ⟨(p0 5).trans l6, (hc (f + 6) (by omega)).trans l6a⟩, ⟨(p0 6).trans l7, (hc (f + 7) (by omega)).trans l7a⟩, ⟨(p0 7).trans l8, (hc (f + 8) (by omega)).trans l8a⟩, fun k hk => ⟨(p1 k).trans (lr k hk).1, (hc (f + 9 + k) (by omega)).trans (lr k hk).2⟩, ⟨(p0 8).trans l9, (hc (f + 18) (by omega)).trans l9a⟩, fun k hk => ⟨(p2 k).trans (lw k hk).1, (hc (f + 19 + k) (by omega)).trans (lw k hk).2⟩⟩
theorem isCnt_x {S S2 : SS} {a n c e : Nat} (h : isCnt S c e) (hX : Xq S S2 a n) (hn : c + 52 ≤ n) (ha : a < c ∨ c + 52 ≤ a) (he : a < e ∨ e + 31 ≤ a) : isCnt S2 c e := by
  obtain ⟨n0, n1, n2, n3, n4, n5, n6, n6a, n7, n7a, n8, n8a, n9, n9a, n10, n10a, hR, hH, hF, hG, hE, hsp⟩ := h
  have hc : ∀ x, x < n → S2.1[x]? = S.1[x]? := fun x hx => (hX x hx).1
  have p0 := (hX c (by omega)).2 (by omega)
  exact ⟨(hc c (by omega)).trans n0, (p0 0).trans n1, (p0 1).trans n2, (p0 2).trans n3, (p0 3).trans n4, (p0 4).trans n5, (p0 5).trans n6, (hc (c + 47) (by omega)).trans n6a, (p0 6).trans n7, (hc (c + 48) (by omega)).trans n7a, (p0 7).trans n8, (hc (c + 49) (by omega)).trans n8a, (p0 8).trans n9, (hc (c + 50) (by omega)).trans n9a, (p0 9).trans n10, (hc (c + 51) (by omega)).trans n10a, isRes_x hR hX (by omega) (by omega), isChs_x hH hX (by omega) (by omega), isFat_x hF hX (by omega) (by omega), isLog_x hG hX (by omega) (by omega), isEl_x hE hX (by omega) he, hsp⟩
theorem startM_e {I : II} {e x : Nat} {nc ns : Int} (h : x < e ∨ e + 31 ≤ x) : startM I e nc ns x = I x := by
  have h8 : ∀ k : Nat, foldUp (fun k J => up J (e + 2) k (k : Int)) (up (up (up (up I e 0 nc) (e + 1) 3 ns) e 2 0) e 4 0) k x = I x := by
    intro k
    induction k with
    | zero =>
      show up (up (up (up I e 0 nc) (e + 1) 3 ns) e 2 0) e 4 0 x = I x
      rw [up_ne (by omega), up_ne (by omega), up_ne (by omega), up_ne (by omega)]
    | succ k ih =>
      show up _ (e + 2) k (k : Int) x = I x
      rw [up_ne (by omega)]; exact ih
  exact h8 8
theorem Nw.up {S : SS} {n a k : Nat} {I : II} {z : Int} (h : Nw S n I) (ha : a < n) : Nw S n (up I a k z) := ⟨h.1, h.2.1, h.2.2.1, fun x j hx => by rw [up_ne (by omega)]; exact h.2.2.2 x j hx⟩
def hisM (I : II) (h : Nat) : Nat → II
  | 0 => I
  | k + 1 => startM (hisM I h k) (h + 2 + 31 * k) 3 1
theorem hisM_e {I : II} {h x : Nat} : ∀ k, (x < h + 2 ∨ h + 2 + 31 * k ≤ x) → hisM I h k x = I x
  | 0, _ => rfl
  | k + 1, hx => by
    show startM (hisM I h k) (h + 2 + 31 * k) 3 1 x = I x
    rw [startM_e (by omega)]
    exact hisM_e k (by omega)
theorem isHis_x {S S2 : SS} {a n h : Nat} (hh : isHis S h (fun k => h + 2 + 31 * k)) (hX : Xq S S2 a n) (hn : h + 250 ≤ n) (ha : a < h ∨ h + 250 ≤ a) : isHis S2 h (fun k => h + 2 + 31 * k) := by
  obtain ⟨h1, h2, h3, h4⟩ := hh
  have hp : ∀ x, x < n → x ≠ a → ∀ j, S2.2.1 x j = S.2.1 x j := fun x hx => (hX x hx).2
  refine ⟨(hX h (by omega)).1.trans h1, (hp h (by omega) (by omega) 0).trans h2, (hX (h + 1) (by omega)).1.trans h3, fun k hk => ⟨(hp (h + 1) (by omega) (by omega) k).trans (h4 k hk).1, ?_, (h4 k hk).2.2⟩⟩
  refine isEl_x (h4 k hk).2.1 hX ?_ ?_
  · show h + 2 + 31 * k + 31 ≤ n
    omega
  · show a < h + 2 + 31 * k ∨ h + 2 + 31 * k + 31 ≤ a
    omega
/-- what a constructor leaves: n cells from a on, of which P holds; the numbers are J -/
def NQ (S : SS) (a n : Nat) (P : SS → Prop) (J : II) (X : XX) : QQ := fun o S2 I2 X2 => o = .inl none ∧ Nw S2 (a + n) J ∧ XB S S2 a ∧ P S2 ∧ I2 = J ∧ X2 = X
section NWs
variable {l : Launch} {g : GV} {mt mt2 : MT} {dp dp2 bc bs bc2 bs2 mc ms pc pc2 idx : Nat} {Z : ZZ} {ls : List (Option Value)} {st : List Value} {S S0 : SS} {I J : II} {X : XX}
theorem Nw.app {S : SS} {b : Nat} {I : II} {L : List (Nat × Nat)} (h : Nw S b I) : XB S (S.1 ++ L, S.2.1, true) b := fun x hx => ⟨by rw [List.getElem?_append_left (by rw [h.2.1]; exact hx)], fun _ => rfl⟩
theorem Nw.at {S : SS} {b : Nat} {I : II} {q : Nat × Nat} (h : Nw S b I) : (S.1 ++ [q])[b]? = some q := by
  rw [List.getElem?_append_right (by rw [h.2.1]; exact Nat.le_refl _), h.2.1, Nat.sub_self]
  rfl
theorem Nw.app1 {S : SS} {b : Nat} {I : II} {q : Nat × Nat} (h : Nw S b I) : Nw (S.1 ++ [q], S.2.1, true) (b + 1) I :=
  ⟨rfl, by rw [List.length_append, h.2.1]; rfl, fun x j hx => h.2.2.1 x j (by omega), fun x j hx => h.2.2.2 x j (by omega)⟩
theorem y_new {ci N b : Nat} (hd : DC (mCc mt) pc (.new idx) 3 pc2) (hN : NWo (mOwn mt) idx ci N) (h : Nw S b I) (hlen : b < 800000) (hbc : bc = 1 + bc2) (hbs : bs = N + bs2)
    (kk : ∀ S2, Nw S2 (b + 1) I → XB S S2 b → Rw S2 b (List.replicate N none) → S2.1[b]? = some (ci, N) → V l g mt dp Z bc2 bs2 pc2 ls (.ref b :: st) S2 I X) : V l g mt dp Z bc bs pc ls st S I X := by
  have hk := kk (S.1 ++ [(ci, N)], S.2.1, true) h.app1 h.app (fun j => by rw [List.getD_eq_getElem?_getD, List.getElem?_replicate]; split <;> exact h.2.2.1 b j (Nat.le_refl _)) h.at
  refine v_new hd hN h.1 (fun j => ?_) (fun j => ?_) (by rw [h.2.1]; exact hlen) hbc hbs ?_
  · rw [h.2.1]; exact h.2.2.2 b j (Nat.le_refl _)
  · rw [h.2.1]; exact h.2.2.1 b j (Nat.le_refl _)
  · rw [h.2.1]; exact hk
theorem y_newI {n b : Nat} {z : Int} (hd : DC (mCc mt) pc (.newarray .int) 2 pc2) (h : Nw S b I) (hz : z = (n : Int)) (hn : n ≤ 1000000) (hlen : b < 800000) (hbc : bc = 1 + bc2) (hbs : bs = n + bs2)
    (kk : ∀ S2, Nw S2 (b + 1) I → XB S S2 b → S2.1[b]? = some (20, n) → V l g mt dp Z bc2 bs2 pc2 ls (.ref b :: st) S2 I X) : V l g mt dp Z bc bs pc ls (.int (ii z) :: st) S I X := by
  have hk := kk (S.1 ++ [(20, n)], S.2.1, true) h.app1 h.app h.at
  refine v_newI hd ac_I (fun j => ?_) hz hn h.1 (by rw [h.2.1]; exact hlen) hbc hbs ?_
  · rw [h.2.1]; exact h.2.2.2 b j (Nat.le_refl _)
  · rw [h.2.1]; exact hk
theorem y_newZ {n b : Nat} {z : Int} (hd : DC (mCc mt) pc (.newarray .boolean) 2 pc2) (h : Nw S b I) (hz : z = (n : Int)) (hn : n ≤ 1000000) (hlen : b < 800000) (hbc : bc = 1 + bc2) (hbs : bs = n + bs2)
    (kk : ∀ S2, Nw S2 (b + 1) I → XB S S2 b → S2.1[b]? = some (21, n) → V l g mt dp Z bc2 bs2 pc2 ls (.ref b :: st) S2 I X) : V l g mt dp Z bc bs pc ls (.int (ii z) :: st) S I X := by
  have hk := kk (S.1 ++ [(21, n)], S.2.1, true) h.app1 h.app h.at
  refine v_newZ hd ac_Z (fun j => ?_) hz hn h.1 (by rw [h.2.1]; exact hlen) hbc hbs ?_
  · rw [h.2.1]; exact h.2.2.2 b j (Nat.le_refl _)
  · rw [h.2.1]; exact hk
theorem y_anew {n b : Nat} {z : Int} (hd : DC (mCc mt) pc (.anewarray idx) 3 pc2) (hL1 : Cond.classLink (mOwn mt) idx RX2 ∈ lw_good) (h : Nw S b I) (hz : z = (n : Int)) (hn : n ≤ 1000) (hlen : b < 800000) (hbc : bc = 1 + bc2) (hbs : bs = n + bs2)
    (kk : ∀ S2, Nw S2 (b + 1) I → XB S S2 b → S2.1[b]? = some (23, n) → V l g mt dp Z bc2 bs2 pc2 ls (.ref b :: st) S2 I X) : V l g mt dp Z bc bs pc ls (.int (ii z) :: st) S I X := by
  have hk := kk (S.1 ++ [(23, n)], S.2.1, true) h.app1 h.app h.at
  refine v_anew hd hL1 ao_E h.1 (fun j => ?_) hz hn (by rw [h.2.1]; exact hlen) hbc hbs ?_
  · rw [h.2.1]; exact h.2.2.1 b j (Nat.le_refl _)
  · rw [h.2.1]; exact hk
theorem y_multi {N K b : Nat} {z1 z2 : Int} (hd : DC (mCc mt) pc (.multianewarray idx 2) 4 pc2) (hL1 : Cond.classLink (mOwn mt) idx "[[I" ∈ lw_good) (h : Nw S b I) (h1 : z1 = (N : Int)) (h2 : z2 = (K : Int)) (hN : N ≤ 1000) (hK9 : K ≤ 1000) (hlen : b < 800000) (hbc : bc = 1 + N + bc2) (hbs : bs = N + N * K + bs2)
    (kk : ∀ S2, Nw S2 (b + 1 + N) I → XB S S2 b → S2.1[b]? = some (22, N) → (∀ k, k < N → S2.2.1 b k = some (b + 1 + k) ∧ S2.1[b + 1 + k]? = some (20, K)) → V l g mt dp Z bc2 bs2 pc2 ls (.ref b :: st) S2 I X) : V l g mt dp Z bc bs pc ls (.int (ii z2) :: .int (ii z1) :: st) S I X := by
  have hb := h.2.1
  have hk := kk (Sm S N K) ⟨rfl, by rw [Sm_len, hb], fun x j hx => by show upN S.2.1 S.1.length N x j = none; rw [upN_ne (by omega)]; exact h.2.2.1 x j (by omega), fun x j hx => h.2.2.2 x j (by omega)⟩
    (fun x hx => ⟨List.getElem?_append_left (by omega), fun j => by show upN S.2.1 S.1.length N x j = _; rw [upN_ne (by omega)]⟩)
    (by show (S.1 ++ (22, N) :: List.replicate N (20, K))[b]? = _; rw [List.getElem?_append_right (by omega), hb, Nat.sub_self]; rfl)
    (fun k hk => ⟨by show upN S.2.1 S.1.length N b k = _; rw [hb, upN_at]; exact if_pos hk, by
      show (S.1 ++ (22, N) :: List.replicate N (20, K))[b + 1 + k]? = _
      rw [List.getElem?_append_right (by omega), hb, show b + 1 + k - b = k + 1 by omega, List.getElem?_cons_succ, List.getElem?_replicate, if_pos hk]⟩)
  refine v_multi hd hL1 ao_2 ac_I h.1 (fun a j ha => h.2.2.2 a j (by omega)) h1 h2 hN hK9 (by rw [hb]; exact hlen) hbc hbs ?_
  rw [hb]; exact hk
theorem y_putF {ci k n a b N : Nat} {t : FieldType} {l0 : List (Option Nat)} (hd : DC (mCc mt) pc (.putfield idx) 3 pc2) (hF : FRo (mOwn mt) idx ci k t true) (ha : S.1[a]? = some (ci, N)) (hk : k < N) (hr : rf ci k = true) (hin : mNm mt = "<init>") (hdec : (gCl[ci]?).map (fun q => q.1) = some (mOwn mt)) (ht : narrow t (.ref (ad g b)) = .ref (ad g b) ∧ fits t (.ref (ad g b)) = true)
    (h : Nw S n I) (hR : Rw S a l0) (hkl : k < l0.length) (han : a < n)
    (kk : ∀ S2, Nw S2 n I → Xq S S2 a n → Rw S2 a (l0.set k (some b)) → V l g mt dp Z bc bs pc2 ls st S2 I X) : V l g mt dp Z bc bs pc ls (.ref b :: .ref a :: st) S I X := by
  refine v_putF hd hF ha hk hr hin hdec ht ?_
  refine kk (S.1, upP S.2.1 a k (some b), S.2.2) ⟨h.1, h.2.1, fun x j hx => by show upP S.2.1 a k (some b) x j = none; unfold upP; rw [if_neg (by omega)]; exact h.2.2.1 x j hx, h.2.2.2⟩ (fun x hx => ⟨rfl, fun hn j => by show upP S.2.1 a k (some b) x j = _; unfold upP; rw [if_neg hn]⟩) (fun j => ?_)
  show upP S.2.1 a k (some b) a j = _
  unfold upP
  rw [if_pos rfl]
  show (if j = k then some b else S.2.1 a j) = _
  rw [List.getD_eq_getElem?_getD, List.getElem?_set]
  by_cases hj : j = k
  · rw [if_pos hj, if_pos hj.symm, if_pos (by omega)]
    rfl
  · rw [if_neg hj, if_neg (fun e => hj e.symm), ← List.getD_eq_getElem?_getD]
    exact hR j
theorem y_aast {n a j b nb m : Nat} {z : Int} (hd : DC (mCc mt) pc .aastore 1 pc2) (ha : S.1[a]? = some (23, m)) (hb : S.1[b]? = some (2, nb)) (hz : z = (j : Int)) (hj : j < m) (h : Nw S n I) (han : a < n)
    (kk : ∀ S2, Nw S2 n I → Xq S S2 a n → S2.2.1 a j = some b → (∀ i, i ≠ j → S2.2.1 a i = S.2.1 a i) → V l g mt dp Z bc bs pc2 ls st S2 I X) (hm : m ≤ 2000000 := by decide) : V l g mt dp Z bc bs pc ls (.ref b :: .int (ii z) :: .ref a :: st) S I X := by
  refine v_aast hd ha hb hz hj ?_ hm
  refine kk (S.1, upP S.2.1 a j (some b), S.2.2) ⟨h.1, h.2.1, fun x i hx => by show upP S.2.1 a j (some b) x i = none; unfold upP; rw [if_neg (by omega)]; exact h.2.2.1 x i hx, h.2.2.2⟩ (fun x hx => ⟨rfl, fun hn i => by show upP S.2.1 a j (some b) x i = _; unfold upP; rw [if_neg hn]⟩) ?_ (fun i hi => ?_)
  · show upP S.2.1 a j (some b) a j = _
    unfold upP
    rw [if_pos rfl]
    exact if_pos rfl
  · show upP S.2.1 a j (some b) a i = _
    unfold upP
    rw [if_pos rfl]
    exact if_neg hi
theorem y_callI {n a m : Nat} {As : List Value} {P : SS → Prop} (hd : DC (mCc mt) pc (.invokespecial idx) 3 pc2) (hL : LKo (wI (mOwn mt) idx mt2) mt2 n) (hh : mHh mt2 = []) (hn : As.length = n) (hnm : mNm mt2 = "<init>") (hvd : mRt mt2 = none)
    (hN : S.2.2 = true) (hC : CT l g mt2 dp2 mc ms (.ref a :: As) S I X (NQ S a m P J X)) (hdp : dp2 + 1 ≤ dp) (hst : (st.map fun v => v.category).sum ≤ 8) (hbc : bc = mc + bc2) (hbs : bs = ms + bs2)
    (k : ∀ S2, Nw S2 (a + m) J → XB S S2 a → P S2 → V l g mt dp Z bc2 bs2 pc2 ls st S2 J X) : V l g mt dp Z bc bs pc ls (As.reverse ++ .ref a :: st) S I X :=
  v_callI hd hL hh hn hnm hvd hC hdp hst (fun E S I X h => by cases h.1) (fun _ _ _ _ _ _ => hN) hbc hbs (fun u S2 I2 X2 h => by
    obtain ⟨h1, h2, h3, h4, rfl, rfl⟩ := h
    cases h1
    exact k S2 h2 h3 h4)
theorem y_cI0 {a m : Nat} {P : SS → Prop} (hd : DC (mCc mt) pc (.invokespecial idx) 3 pc2) (hL : LKo (wI (mOwn mt) idx mt2) mt2 0) (hN : S.2.2 = true) (hC : CT l g mt2 dp2 mc ms [.ref a] S I X (NQ S a m P J X)) (hdp : dp2 + 1 ≤ dp) (hst : (st.map fun v => v.category).sum ≤ 8) (hbc : bc = mc + bc2) (hbs : bs = ms + bs2)
    (k : ∀ S2, Nw S2 (a + m) J → XB S S2 a → P S2 → V l g mt dp Z bc2 bs2 pc2 ls st S2 J X) (hh : mHh mt2 = []) (hnm : mNm mt2 = "<init>") (hvd : mRt mt2 = none) : V l g mt dp Z bc bs pc ls (.ref a :: st) S I X := y_callI (As := []) hd hL hh rfl hnm hvd hN hC hdp hst hbc hbs k
theorem y_cI1 {a m : Nat} {x1 : Value} {P : SS → Prop} (hd : DC (mCc mt) pc (.invokespecial idx) 3 pc2) (hL : LKo (wI (mOwn mt) idx mt2) mt2 1) (hN : S.2.2 = true) (hC : CT l g mt2 dp2 mc ms [.ref a, x1] S I X (NQ S a m P J X)) (hdp : dp2 + 1 ≤ dp) (hst : (st.map fun v => v.category).sum ≤ 8) (hbc : bc = mc + bc2) (hbs : bs = ms + bs2)
    (k : ∀ S2, Nw S2 (a + m) J → XB S S2 a → P S2 → V l g mt dp Z bc2 bs2 pc2 ls st S2 J X) (hh : mHh mt2 = []) (hnm : mNm mt2 = "<init>") (hvd : mRt mt2 = none) : V l g mt dp Z bc bs pc ls (x1 :: .ref a :: st) S I X := y_callI (As := [x1]) hd hL hh rfl hnm hvd hN hC hdp hst hbc hbs k
theorem y_cI2 {a m : Nat} {x1 x2 : Value} {P : SS → Prop} (hd : DC (mCc mt) pc (.invokespecial idx) 3 pc2) (hL : LKo (wI (mOwn mt) idx mt2) mt2 2) (hN : S.2.2 = true) (hC : CT l g mt2 dp2 mc ms [.ref a, x1, x2] S I X (NQ S a m P J X)) (hdp : dp2 + 1 ≤ dp) (hst : (st.map fun v => v.category).sum ≤ 8) (hbc : bc = mc + bc2) (hbs : bs = ms + bs2)
    (k : ∀ S2, Nw S2 (a + m) J → XB S S2 a → P S2 → V l g mt dp Z bc2 bs2 pc2 ls st S2 J X) (hh : mHh mt2 = []) (hnm : mNm mt2 = "<init>") (hvd : mRt mt2 = none) : V l g mt dp Z bc bs pc ls (x2 :: x1 :: .ref a :: st) S I X := y_callI (As := [x1, x2]) hd hL hh rfl hnm hvd hN hC hdp hst hbc hbs k
theorem y_ret {a n : Nat} {P : SS → Prop} (hd : DC (mCc mt) pc .return_ 1 pc2) (hrt : mRt mt = none) (hN : Nw S (a + n) J) (hX : XB S0 S a) (hP : P S) : V l g mt dp (Zm g (NQ S0 a n P J X)) 0 0 pc ls [] S J X := v_vret hd hrt ⟨rfl, hN, hX, hP, rfl, rfl⟩ (fun _ => rfl)
end NWs
