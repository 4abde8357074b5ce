/-! SIMULATION: sets, choices -/
theorem bt_or : ∀ s : Nat, s < 256 → ∀ q : Nat, q < 8 → ∀ c : Nat, c < 8 → btI (s ||| 2 ^ q) c = if c = q then 1 else btI s c := by decide +kernel
theorem bt_clr : ∀ s : Nat, s < 256 → ∀ q : Nat, q < 8 → ∀ c : Nat, c < 8 → btI (clr s q) c = if c = q then 0 else btI s c := by decide +kernel
theorem bt_pow : ∀ q : Nat, q < 8 → ∀ c : Nat, c < 8 → btI (2 ^ q) c = if c = q then 1 else 0 := by decide +kernel
theorem pop_or : ∀ s : Nat, s < 256 → ∀ q : Nat, q < 8 → btI s q = 0 → pop8 (s ||| 2 ^ q) = pop8 s + 1 := by decide +kernel
theorem pop_clr : ∀ s : Nat, s < 256 → ∀ q : Nat, q < 8 → btI s q = 1 → pop8 (clr s q) + 1 = pop8 s := by decide +kernel
theorem pop_0 : ∀ s : Nat, s < 256 → pop8 s = 0 → s = 0 := by decide +kernel
theorem bt_sum : ∀ s : Nat, s < 256 → (s : Int) = btI s 0 + 2 * btI s 1 + 4 * btI s 2 + 8 * btI s 3 + 16 * btI s 4 + 32 * btI s 5 + 64 * btI s 6 + 128 * btI s 7 := by decide +kernel
theorem pop_sum (s : Nat) : (pop8 s : Int) = btI s 0 + btI s 1 + btI s 2 + btI s 3 + btI s 4 + btI s 5 + btI s 6 + btI s 7 := by
  unfold pop8 btI
  simp only [Nat.reducePow, Nat.div_one]
  omega
theorem bt_z (c : Nat) : btI 0 c = 0 := by
  unfold btI
  rw [Nat.zero_div]
  rfl
theorem bt_ext {s t : Nat} (hs : s < 256) (ht : t < 256) (h : ∀ c, c < 8 → btI s c = btI t c) : s = t := by
  have h1 := bt_sum s hs
  have h2 := bt_sum t ht
  rw [h 0 (by omega), h 1 (by omega), h 2 (by omega), h 3 (by omega), h 4 (by omega), h 5 (by omega), h 6 (by omega), h 7 (by omega)] at h1
  omega
theorem bt_one {s : Nat} (hs : s < 256) (h : ¬ s = 0) : ∃ c, c < 8 ∧ btI s c = 1 := by
  by_cases g : ∃ c, c < 8 ∧ btI s c = 1
  · exact g
  · exact (h (bt_ext hs (by omega) fun c hc => by
      rw [bt_z]
      rcases btI_01 s c with e | e
      · exact e
      · exact (g ⟨c, hc, e⟩).elim)).elim
theorem bt_n0 {s c : Nat} (h : btI s c = 1) : ¬ s = 0 := fun e => by
  rw [e, bt_z] at h
  omega
theorem orF_bt {s k : Nat} {b : Int} (hs : s < 256) (hk : k < 8) {c : Nat} (hc : c < 8) : btI (orF s k b) c = if c = k ∧ ¬ b = 0 then 1 else btI s c := by
  unfold orF
  by_cases hb : b = 0
  · rw [if_pos hb, if_neg (fun h => h.2 hb)]
  · rw [if_neg hb, bt_or s hs k hk c hc]
    by_cases hck : c = k
    · rw [if_pos hck, if_pos ⟨hck, hb⟩]
    · rw [if_neg hck, if_neg (fun h => hck h.1)]
theorem or_fold {F : Nat → Nat} {b : Nat → Int} (h0 : F 0 = 0) (hs : ∀ k, F (k + 1) = orF (F k) k (b k)) : ∀ n, n ≤ 8 → F n < 256 ∧ ∀ c, c < 8 → btI (F n) c = if c < n ∧ ¬ b c = 0 then 1 else 0
  | 0, _ => by
    rw [h0]
    exact ⟨by decide, fun c _ => by rw [bt_z, if_neg (fun h => by omega)]⟩
  | n + 1, hn => by
    obtain ⟨h1, h2⟩ := or_fold h0 hs n (by omega)
    rw [hs]
    refine ⟨orF_lt h1 (by omega), fun c hc => ?_⟩
    rw [orF_bt h1 (by omega) hc, h2 c hc]
    by_cases e : c = n
    · subst e
      by_cases hb : b c = 0
      · rw [if_neg (fun h => h.2 hb), if_neg (fun h => h.2 hb), if_neg (fun h => h.2 hb)]
      · rw [if_pos ⟨rfl, hb⟩, if_pos ⟨Nat.lt_succ_self c, hb⟩]
    · rw [if_neg (fun h => e h.1)]
      by_cases hb : b c = 0
      · rw [if_neg (fun h => h.2 hb), if_neg (fun h => h.2 hb)]
      · by_cases hl : c < n
        · rw [if_pos ⟨hl, hb⟩, if_pos ⟨by omega, hb⟩]
        · rw [if_neg (fun h => hl h.1), if_neg (fun h => by omega)]
theorem hp_bt {J : II} {ls : Int} {n c : Nat} (hn : n ≤ 8) (hc : c < 8) : btI (hpF J ls n) c = if c < n ∧ J 525 c = 0 ∧ ls ≤ J 531 c then 1 else 0 := by
  rw [(or_fold (F := hpF J ls) (b := hpB J ls) rfl (fun _ => rfl) n hn).2 c hc]
  unfold hpB
  by_cases h : J 525 c = 0 ∧ ls ≤ J 531 c
  · by_cases hl : c < n
    · rw [if_pos ⟨hl, by rw [if_pos h]; decide⟩, if_pos ⟨hl, h⟩]
    · rw [if_neg (fun g => hl g.1), if_neg (fun g => hl g.1)]
  · rw [if_neg (fun g => g.2 (if_neg h)), if_neg (fun g => h g.2)]
theorem ws_bt {J : II} {r n c : Nat} (hn : n ≤ 8) (hc : c < 8) : btI (wsF J r n) c = if c < n ∧ J 525 c = 1 ∧ J 532 c = 0 ∧ J 516 r < J 531 c then 1 else 0 := by
  rw [(or_fold (F := wsF J r) (b := wsB J r) rfl (fun _ => rfl) n hn).2 c hc]
  unfold wsB
  by_cases h : J 525 c = 1 ∧ J 532 c = 0 ∧ J 516 r < J 531 c
  · by_cases hl : c < n
    · rw [if_pos ⟨hl, by rw [if_pos h]; decide⟩, if_pos ⟨hl, h⟩]
    · rw [if_neg (fun g => hl g.1), if_neg (fun g => hl g.1)]
  · rw [if_neg (fun g => g.2 (if_neg h)), if_neg (fun g => h g.2)]
theorem wm_bt {I : II} {c k : Nat} (hk : k < 8) : btI (wmF I c 8) k = if btI (I c 11).toNat k = 1 ∧ I c 13 < I (c + 47) k then 1 else 0 := by
  rw [(or_fold (F := wmF I c) (b := wmB I c) rfl (fun _ => rfl) 8 (Nat.le_refl _)).2 k hk]
  unfold wmB
  have h01 := btI_01 (I c 11).toNat k
  by_cases h : btI (I c 11).toNat k = 1 ∧ I c 13 < I (c + 47) k
  · rw [if_pos ⟨hk, by rw [if_neg (by omega), if_pos h.2]; decide⟩, if_pos h]
  · rw [if_neg h, if_neg]
    intro g
    refine g.2 ?_
    by_cases h0 : btI (I c 11).toNat k = 0
    · rw [if_pos h0]
    · rw [if_neg h0, if_neg (fun g2 => h ⟨by omega, g2⟩)]
theorem hop_bt {I : II} {e n k : Nat} (hn : n ≤ 8) (hk : k < 8) : btI (hopF I e n) k = if k < n ∧ standF I e k = 1 then 1 else 0 := by
  rw [(or_fold (F := hopF I e) (b := standF I e) rfl (fun _ => rfl) n hn).2 k hk]
  have h01 : standF I e k = 0 ∨ standF I e k = 1 := by unfold standF; split <;> omega
  by_cases h : standF I e k = 1
  · by_cases hl : k < n
    · rw [if_pos ⟨hl, by omega⟩, if_pos ⟨hl, h⟩]
    · rw [if_neg (fun g => hl g.1), if_neg (fun g => hl g.1)]
  · rw [if_neg (fun g => g.2 (by omega)), if_neg (fun g => h g.2)]
/-- what extF finds -/
def exP (f : Nat → Int) (s : Nat) (m : Int) (n : Nat) (q : Nat × Int) : Prop :=
  q.1 < 256 ∧ (((∀ c, c < n → btI s c = 0) ∧ q.1 = 0) ∨ ((∃ c, c < n ∧ btI s c = 1 ∧ f c = q.2) ∧ (∀ c, c < 8 → btI q.1 c = if c < n ∧ btI s c = 1 ∧ f c = q.2 then 1 else 0) ∧ ∀ c, c < n → btI s c = 1 → (m = 0 → q.2 ≤ f c) ∧ (¬ m = 0 → f c ≤ q.2)))
theorem ext_spec (f : Nat → Int) (s : Nat) (m : Int) : ∀ n, n ≤ 8 → exP f s m n (extF f s m n)
  | 0, _ => ⟨(by decide : (0 : Nat) < 256), Or.inl ⟨fun c hc => by omega, rfl⟩⟩
  | n + 1, hn => by
    have ih := ext_spec f s m n (by omega)
    have e : extF f s m (n + 1) = exS f s m n (extF f s m n) := rfl
    rw [e]
    generalize extF f s m n = q at ih
    obtain ⟨i1, i2⟩ := ih
    have hb := btI_01 s n
    unfold exS
    by_cases h0 : btI s n = 0
    · rw [if_pos h0]
      refine ⟨i1, ?_⟩
      rcases i2 with ⟨a, b⟩ | ⟨⟨c0, a1, a2, a3⟩, b, d⟩
      · exact Or.inl ⟨fun c hc => by
          by_cases e1 : c = n
          · rw [e1]; exact h0
          · exact a c (by omega), b⟩
      · refine Or.inr ⟨⟨c0, by omega, a2, a3⟩, fun c hc => ?_, fun c hc h1 => ?_⟩
        · rw [b c hc]
          by_cases e1 : c = n
          · subst e1
            rw [if_neg (fun g => by omega), if_neg (fun g => by omega)]
          · by_cases g : c < n ∧ btI s c = 1 ∧ f c = q.2
            · rw [if_pos g, if_pos ⟨by omega, g.2⟩]
            · rw [if_neg g, if_neg (fun g2 => g ⟨by omega, g2.2⟩)]
        · by_cases e1 : c = n
          · rw [e1] at h1; omega
          · exact d c (by omega) h1
    · rw [if_neg h0]
      have h1n : btI s n = 1 := by omega
      by_cases h2 : q.1 = 0 ∨ (m = 0 ∧ f n < q.2) ∨ (¬ m = 0 ∧ q.2 < f n)
      · rw [if_pos h2]
        refine ⟨pow_lt8 n (by omega), Or.inr ⟨⟨n, by omega, h1n, rfl⟩, fun c hc => ?_, fun c hc h1 => ?_⟩⟩
        · rw [bt_pow n (by omega) c hc]
          by_cases e1 : c = n
          · rw [if_pos e1, if_pos ⟨by omega, by rw [e1]; exact h1n, by rw [e1]⟩]
          · rw [if_neg e1, if_neg]
            intro g
            rcases i2 with ⟨a, b⟩ | ⟨a, b, d⟩
            · have := a c (by omega); omega
            · have hd := d c (by omega) g.2.1
              have hq : ¬ q.1 = 0 := by
                obtain ⟨c0, a1, a2, a3⟩ := a
                refine bt_n0 (c := c0) ?_
                rw [b c0 (by omega), if_pos ⟨a1, a2, a3⟩]
              have g3 := g.2.2
              dsimp only at g3
              rcases h2 with h2 | h2 | h2
              · exact hq h2
              · have := hd.1 h2.1; omega
              · have := hd.2 h2.1; omega
        · dsimp only
          by_cases e1 : c = n
          · rw [e1]; omega
          · rcases i2 with ⟨a, b⟩ | ⟨a, b, d⟩
            · have := a c (by omega); omega
            · have hd := d c (by omega) h1
              have hq : ¬ q.1 = 0 := by
                obtain ⟨c0, a1, a2, a3⟩ := a
                refine bt_n0 (c := c0) ?_
                rw [b c0 (by omega), if_pos ⟨a1, a2, a3⟩]
              refine ⟨fun hm => ?_, fun hm => ?_⟩
              · have := hd.1 hm
                rcases h2 with h2 | h2 | h2
                · exact (hq h2).elim
                · omega
                · exact (h2.1 hm).elim
              · have := hd.2 hm
                rcases h2 with h2 | h2 | h2
                · exact (hq h2).elim
                · exact (hm h2.1).elim
                · omega
      · rw [if_neg h2]
        have hq0 : ¬ q.1 = 0 := fun g => h2 (Or.inl g)
        rcases i2 with ⟨a, b⟩ | ⟨⟨c0, a1, a2, a3⟩, b, d⟩
        · exact (hq0 b).elim
        · have hle : (m = 0 → q.2 ≤ f n) ∧ (¬ m = 0 → f n ≤ q.2) := ⟨fun hm => by
              by_cases g : f n < q.2
              · exact (h2 (Or.inr (Or.inl ⟨hm, g⟩))).elim
              · omega, fun hm => by
              by_cases g : q.2 < f n
              · exact (h2 (Or.inr (Or.inr ⟨hm, g⟩))).elim
              · omega⟩
          by_cases h3 : f n = q.2
          · rw [if_pos h3]
            refine ⟨or_lt q.1 i1 n (by omega), Or.inr ⟨⟨c0, by omega, a2, a3⟩, fun c hc => ?_, fun c hc h1 => ?_⟩⟩
            · dsimp only
              rw [bt_or q.1 i1 n (by omega) c hc, b c hc]
              by_cases e1 : c = n
              · rw [if_pos e1, if_pos ⟨by omega, by rw [e1]; exact h1n, by rw [e1]; exact h3⟩]
              · rw [if_neg e1]
                by_cases g : c < n ∧ btI s c = 1 ∧ f c = q.2
                · rw [if_pos g, if_pos ⟨by omega, g.2⟩]
                · rw [if_neg g, if_neg (fun g2 => g ⟨by omega, g2.2⟩)]
            · dsimp only
              by_cases e1 : c = n
              · rw [e1]; exact hle
              · exact d c (by omega) h1
          · rw [if_neg h3]
            refine ⟨i1, Or.inr ⟨⟨c0, by omega, a2, a3⟩, fun c hc => ?_, fun c hc h1 => ?_⟩⟩
            · rw [b c hc]
              by_cases e1 : c = n
              · subst e1
                rw [if_neg (fun g => by omega), if_neg (fun g => h3 g.2.2)]
              · by_cases g : c < n ∧ btI s c = 1 ∧ f c = q.2
                · rw [if_pos g, if_pos ⟨by omega, g.2⟩]
                · rw [if_neg g, if_neg (fun g2 => g ⟨by omega, g2.2⟩)]
            · by_cases e1 : c = n
              · rw [e1]; exact hle
              · exact d c (by omega) h1
theorem ext_lt (f : Nat → Int) (s : Nat) (m : Int) {n : Nat} (hn : n ≤ 8) : (extF f s m n).1 < 256 := (ext_spec f s m n hn).1
theorem ext_sub (f : Nat → Int) (s : Nat) (m : Int) {n c : Nat} (hn : n ≤ 8) (hc : c < 8) (h : btI (extF f s m n).1 c = 1) : c < n ∧ btI s c = 1 := by
  rcases (ext_spec f s m n hn).2 with ⟨-, b⟩ | ⟨-, b, -⟩
  · exact (bt_n0 h b).elim
  · rw [b c hc] at h
    by_cases g : c < n ∧ btI s c = 1 ∧ f c = (extF f s m n).2
    · exact ⟨g.1, g.2.1⟩
    · rw [if_neg g] at h; omega
theorem ext_ne (f : Nat → Int) (s : Nat) (m : Int) {n c : Nat} (hn : n ≤ 8) (hc : c < n) (h : btI s c = 1) : ¬ (extF f s m n).1 = 0 := by
  rcases (ext_spec f s m n hn).2 with ⟨a, -⟩ | ⟨⟨c0, a1, a2, a3⟩, b, -⟩
  · have := a c hc; omega
  · refine bt_n0 (c := c0) ?_
    rw [b c0 (by omega), if_pos ⟨a1, a2, a3⟩]
/-- the most among all are the most among those that have enough -/
theorem ext_most (f : Nat → Int) {s t : Nat} {n : Nat} {v : Int} (hn : n ≤ 8) (ht : ∀ c, c < n → btI t c = if btI s c = 1 ∧ v ≤ f c then 1 else 0) {c1 : Nat} (h1 : c1 < n) (h2 : btI t c1 = 1) : (extF f s 1 n).1 = (extF f t 1 n).1 := by
  have ts : ∀ c, c < n → btI t c = 1 → btI s c = 1 ∧ v ≤ f c := fun c hc g => by
    rw [ht c hc] at g
    by_cases k : btI s c = 1 ∧ v ≤ f c
    · exact k
    · rw [if_neg k] at g; omega
  obtain ⟨p1, p2⟩ := ext_spec f s 1 n hn
  obtain ⟨q1, q2⟩ := ext_spec f t 1 n hn
  generalize extF f s 1 n = P at p1 p2 ⊢
  generalize extF f t 1 n = Q at q1 q2 ⊢
  rcases p2 with ⟨a, -⟩ | ⟨⟨a0, b1, b2, b3⟩, b, d⟩
  · have := a c1 h1
    have := (ts c1 h1 h2).1
    omega
  · rcases q2 with ⟨a, -⟩ | ⟨⟨u0, e1, e2, e3⟩, e, g⟩
    · have := a c1 h1; omega
    · have k1 := (d u0 e1 (ts u0 e1 e2).1).2 (by decide)
      have k2 := (d c1 h1 (ts c1 h1 h2).1).2 (by decide)
      have k3 : btI t a0 = 1 := by
        rw [ht a0 b1, if_pos ⟨b2, by have := (ts c1 h1 h2).2; omega⟩]
      have k4 := (g a0 b1 k3).2 (by decide)
      have k5 : P.2 = Q.2 := by omega
      refine bt_ext p1 q1 fun c hc => ?_
      rw [b c hc, e c hc, k5]
      by_cases hh : c < n ∧ btI s c = 1 ∧ f c = Q.2
      · rw [if_pos hh, if_pos ⟨hh.1, by rw [ht c hh.1, if_pos ⟨hh.2.1, by have := (ts u0 e1 e2).2; omega⟩], hh.2.2⟩]
      · rw [if_neg hh, if_neg (fun k => hh ⟨k.1, (ts c k.1 k.2.1).1, k.2.2⟩)]
theorem ext_congr {f g : Nat → Int} {n : Nat} (h : ∀ c, c < n → f c = g c) (s : Nat) (m : Int) : ∀ k, k ≤ n → extF f s m k = extF g s m k
  | 0, _ => rfl
  | k + 1, hk => by
    show exS f s m k (extF f s m k) = exS g s m k (extF g s m k)
    rw [ext_congr h s m k (by omega)]
    unfold exS
    rw [h k (by omega)]
theorem ch_congr {F G : Nat → Nat → Int} {n r : Nat} {tr m : Int} {s t : Nat} (h : ∀ k, k ≤ r → ∀ c, c < n → F k c = G k c) (hs : (extF (F r) s m n).1 = (extF (G r) t m n).1) : ∀ i, i ≤ r → chT F n tr r m s i = chT G n tr r m t i
  | 0, _ => by
    show ((extF (F r) s m n).1, (3 : Int), (-1 : Int)) = ((extF (G r) t m n).1, 3, -1)
    rw [hs]
  | i + 1, hi => by
    show chS F n tr r m i (chT F n tr r m s i) = chS G n tr r m i (chT G n tr r m t i)
    rw [ch_congr h hs i (by omega)]
    have e : ∀ q, extF (F (if tr = 0 then r - 1 - i else i)) q m n = extF (G (if tr = 0 then r - 1 - i else i)) q m n := fun q => ext_congr (h _ (by split <;> omega)) q m n (Nat.le_refl n)
    unfold chS
    rw [e]
theorem ch_sub {F : Nat → Nat → Int} {n r : Nat} {tr m : Int} {s : Nat} (hn : n ≤ 8) : ∀ i, (chT F n tr r m s i).1 < 256 ∧ ∀ c, c < 8 → btI (chT F n tr r m s i).1 c = 1 → c < n ∧ btI s c = 1
  | 0 => ⟨ext_lt _ _ _ hn, fun c hc h => ext_sub (F r) s m hn hc h⟩
  | i + 1 => by
    have ih := ch_sub (F := F) (r := r) (tr := tr) (m := m) (s := s) hn i
    show (chS F n tr r m i (chT F n tr r m s i)).1 < 256 ∧ _
    have e : chT F n tr r m s (i + 1) = chS F n tr r m i (chT F n tr r m s i) := rfl
    rw [e]
    unfold chS
    generalize (if tr = 0 then r - 1 - i else i) = j
    split
    · exact ih
    · split
      · exact ih
      · exact ⟨ext_lt _ _ _ hn, fun c hc h => ih.2 c hc (ext_sub _ _ _ hn hc h).2⟩
theorem ch_ne {F : Nat → Nat → Int} {n r : Nat} {tr m : Int} {s c0 : Nat} (hn : n ≤ 8) (hc0 : c0 < n) (h0 : btI s c0 = 1) : ∀ i, ¬ (chT F n tr r m s i).1 = 0
  | 0 => ext_ne (F r) s m hn hc0 h0
  | i + 1 => by
    have ih := ch_ne (F := F) (r := r) (tr := tr) (m := m) hn hc0 h0 i
    have hs := ch_sub (F := F) (r := r) (tr := tr) (m := m) (s := s) hn i
    have e : chT F n tr r m s (i + 1) = chS F n tr r m i (chT F n tr r m s i) := rfl
    rw [e]
    unfold chS
    generalize (if tr = 0 then r - 1 - i else i) = j
    split
    · exact ih
    · split
      · exact ih
      · obtain ⟨c1, k1, k2⟩ := bt_one hs.1 ih
        exact ext_ne _ _ _ hn (hs.2 c1 k1 k2).1 k2
/-- the reason goes with the set -/
theorem ch_why {F : Nat → Nat → Int} {n r : Nat} {tr m : Int} {s : Nat} : ∀ i, ((chT F n tr r m s i).2.1 = 3 ∧ (chT F n tr r m s i).2.2 = -1 ∧ (chT F n tr r m s i).1 = (extF (F r) s m n).1) ∨ ((chT F n tr r m s i).2.1 = 4 ∧ ¬ pop8 (extF (F r) s m n).1 ≤ 1)
  | 0 => Or.inl ⟨rfl, rfl, rfl⟩
  | i + 1 => by
    have ih := ch_why (F := F) (r := r) (tr := tr) (m := m) (s := s) (n := n) i
    have e : chT F n tr r m s (i + 1) = chS F n tr r m i (chT F n tr r m s i) := rfl
    rw [e]
    unfold chS
    generalize (if tr = 0 then r - 1 - i else i) = j
    split
    · exact ih
    · rename_i hp
      split
      · exact ih
      · refine Or.inr ⟨rfl, ?_⟩
        rcases ih with ih | ih
        · rw [← ih.2.2]; exact hp
        · exact ih.2
theorem lkF_up {f : Nat → Int} {s : Nat} {m : Int} (hm : ¬ m = 0) : ∀ k i, 0 ≤ lkF f s m i → lkF f s m (i + k) = lkF f s m i
  | 0, _, _ => rfl
  | k + 1, i, h => by
    have ih := lkF_up hm k i h
    show (if btI s (f (i + k)).toNat = 1 ∧ (lkF f s m (i + k) < 0 ∨ m = 0) then f (i + k) else lkF f s m (i + k)) = _
    rw [if_neg (fun g => by rw [ih] at g; omega), ih]
theorem lkF_m1 {f : Nat → Int} {s : Nat} {m : Int} {n : Nat} (hf : ∀ k, k < n → 0 ≤ f k) : ∀ i, i ≤ n → lkF f s m i < 0 → lkF f s m i = -1
  | 0, _, _ => rfl
  | i + 1, hi, h => by
    unfold lkF at h ⊢
    split at h
    · have := hf i (by omega); omega
    · rename_i g
      rw [if_neg g]
      exact lkF_m1 hf i (by omega) h
theorem lot_most {f : Nat → Int} {s : Nat} {m : Int} {n : Nat} (hm : ¬ m = 0) (hf : ∀ k, k < n → 0 ≤ f k) : ∀ k i, i + k = n → lkF f s m i < 0 → lotF f s m n k i = lkF f s m n
  | 0, i, hi, h => by
    show (-1 : Int) = _
    rw [← hi, Nat.add_zero, lkF_m1 hf i (by omega) h]
  | k + 1, i, hi, h => by
    unfold lotF
    rw [if_neg hm]
    by_cases hb : btI s (f i).toNat = 0
    · rw [if_pos hb]
      have e : lkF f s m (i + 1) = lkF f s m i := by
        show (if btI s (f i).toNat = 1 ∧ (lkF f s m i < 0 ∨ m = 0) then f i else lkF f s m i) = _
        rw [if_neg (fun g => by omega)]
      exact lot_most hm hf k (i + 1) (by omega) (by rw [e]; exact h)
    · rw [if_neg hb]
      have h01 := btI_01 s (f i).toNat
      have e : lkF f s m (i + 1) = f i := by
        show (if btI s (f i).toNat = 1 ∧ (lkF f s m i < 0 ∨ m = 0) then f i else lkF f s m i) = _
        rw [if_pos ⟨by omega, Or.inl h⟩]
      have hi0 := hf i (by omega)
      have e2 := lkF_up (f := f) (s := s) hm k (i + 1) (by rw [e]; exact hi0)
      rw [← e, ← e2, show i + 1 + k = n by omega]
theorem lot_few {f : Nat → Int} {s : Nat} {n : Nat} : ∀ k i, i + k = n → lotF f s 0 n k i = lkF f s 0 k
  | 0, _, _ => rfl
  | k + 1, i, hi => by
    have h01 := btI_01 s (f k).toNat
    unfold lotF lkF
    rw [if_pos rfl, show n - 1 - i = k by omega]
    by_cases hb : btI s (f k).toNat = 0
    · rw [if_pos hb, if_neg (fun g => by omega)]
      exact lot_few k (i + 1) (by omega)
    · rw [if_neg hb, if_pos ⟨by omega, Or.inr rfl⟩]
theorem lot_lk {f : Nat → Int} {s : Nat} {m : Int} {n : Nat} (hf : ∀ k, k < n → 0 ≤ f k) : lotF f s m n n 0 = lkF f s m n := by
  by_cases hm : m = 0
  · subst hm
    exact lot_few n 0 (by omega)
  · exact lot_most hm hf n 0 (by omega) (by show (-1 : Int) < 0; decide)
theorem lk_congr {f g : Nat → Int} {s : Nat} {m : Int} : ∀ n, (∀ k, k < n → f k = g k) → lkF f s m n = lkF g s m n
  | 0, _ => rfl
  | n + 1, h => by
    unfold lkF
    rw [lk_congr n (fun k hk => h k (by omega)), h n (by omega)]
/-- who is found is of the set; someone is found where the lot has one of the set -/
theorem lk_in {f : Nat → Int} {s : Nat} {m : Int} : ∀ n, (∀ k, k < n → 0 ≤ f k) → lkF f s m n = -1 ∨ (∃ k, k < n ∧ lkF f s m n = f k ∧ btI s (f k).toNat = 1)
  | 0, _ => Or.inl rfl
  | n + 1, h => by
    unfold lkF
    split
    · rename_i g
      exact Or.inr ⟨n, by omega, rfl, g.1⟩
    · rcases lk_in (s := s) (m := m) n (fun k hk => h k (by omega)) with e | ⟨k, k1, k2, k3⟩
      · exact Or.inl e
      · exact Or.inr ⟨k, by omega, k2, k3⟩
theorem lk_some {f : Nat → Int} {s : Nat} {m : Int} : ∀ n, (∀ k, k < n → 0 ≤ f k) → (∃ k, k < n ∧ btI s (f k).toNat = 1) → 0 ≤ lkF f s m n
  | 0, _, ⟨k, hk, _⟩ => by omega
  | n + 1, h, ⟨k, hk, hb⟩ => by
    unfold lkF
    split
    · exact h n (by omega)
    · rename_i g
      by_cases e : k = n
      · subst e
        by_cases h0 : lkF f s m k < 0
        · exact (g ⟨hb, Or.inl h0⟩).elim
        · omega
      · exact lk_some n (fun j hj => h j (by omega)) ⟨k, by omega, hb⟩
