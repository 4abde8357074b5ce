/-! THE CLASS'S LAYOUT: where the cells of an object lie, by its first address -/
def isEl (S : SS) (e : Nat) : Prop := S.1[e]? = some (2, 8) ∧ S.2.1 e 1 = some (e + 1) ∧ S.1[e + 1]? = some (20, 4) ∧ S.2.1 e 3 = some (e + 2) ∧ S.1[e + 2]? = some (20, 8) ∧ S.2.1 e 5 = some (e + 3) ∧ S.1[e + 3]? = some (20, 25) ∧ S.2.1 e 6 = some (e + 4) ∧ S.1[e + 4]? = some (20, 25) ∧ S.2.1 e 7 = some (e + 5) ∧ S.1[e + 5]? = some (22, 25) ∧ ∀ r, r < 25 → S.2.1 (e + 5) r = some (e + 6 + r) ∧ S.1[e + 6 + r]? = some (20, 8)
def isRes (S : SS) (r : Nat) : Prop := S.1[r]? = some (5, 5) ∧ S.2.1 r 2 = some (r + 1) ∧ S.1[r + 1]? = some (20, 8) ∧ S.2.1 r 3 = some (r + 2) ∧ S.1[r + 2]? = some (20, 8) ∧ S.2.1 r 4 = some (r + 3) ∧ S.1[r + 3]? = some (22, 9) ∧ ∀ k, k < 9 → S.2.1 (r + 3) k = some (r + 4 + k) ∧ S.1[r + 4 + k]? = some (20, 8)
def isFat (S : SS) (f : Nat) : Prop := S.1[f]? = some (3, 3) ∧ S.2.1 f 0 = some (f + 1) ∧ S.1[f + 1]? = some (20, 8) ∧ S.2.1 f 1 = some (f + 2) ∧ S.1[f + 2]? = some (20, 8) ∧ S.2.1 f 2 = some (f + 3) ∧ S.1[f + 3]? = some (20, 8)
def isLog (S : SS) (f : Nat) : Prop := S.1[f]? = some (6, 9) ∧ (S.2.1 f 0 = some (f + 1) ∧ S.1[f + 1]? = some (20, 9)) ∧ (S.2.1 f 1 = some (f + 2) ∧ S.1[f + 2]? = some (20, 9)) ∧ (S.2.1 f 2 = some (f + 3) ∧ S.1[f + 3]? = some (20, 9)) ∧ (S.2.1 f 3 = some (f + 4) ∧ S.1[f + 4]? = some (20, 9)) ∧ (S.2.1 f 4 = some (f + 5) ∧ S.1[f + 5]? = some (20, 9)) ∧ (S.2.1 f 5 = some (f + 6) ∧ S.1[f + 6]? = some (20, 9)) ∧ (S.2.1 f 6 = some (f + 7) ∧ S.1[f + 7]? = some (20, 9)) ∧
  (S.2.1 f 7 = some (f + 8) ∧ S.1[f + 8]? = some (22, 9)) ∧ (∀ k, k < 9 → S.2.1 (f + 8) k = some (f + 9 + k) ∧ S.1[f + 9 + k]? = some (20, 25)) ∧ (S.2.1 f 8 = some (f + 18) ∧ S.1[f + 18]? = some (22, 9)) ∧ ∀ k, k < 9 → S.2.1 (f + 18) k = some (f + 19 + k) ∧ S.1[f + 19 + k]? = some (20, 25)
def isChs (S : SS) (h e r : Nat) : Prop := S.1[h]? = some (0, 4) ∧ S.2.1 h 0 = some e ∧ S.2.1 h 1 = some r
def isCnt (S : SS) (c e : Nat) : Prop := S.1[c]? = some (1, 16) ∧ S.2.1 c 0 = some e ∧ S.2.1 c 1 = some (c + 14) ∧ S.2.1 c 2 = some (c + 1) ∧ S.2.1 c 3 = some (c + 15) ∧ S.2.1 c 4 = some (c + 19) ∧ S.2.1 c 5 = some (c + 47) ∧ S.1[c + 47]? = some (20, 8) ∧ S.2.1 c 6 = some (c + 48) ∧ S.1[c + 48]? = some (20, 25) ∧ S.2.1 c 7 = some (c + 49) ∧ S.1[c + 49]? = some (20, 25) ∧ S.2.1 c 8 = some (c + 50) ∧ S.1[c + 50]? = some (20, 25) ∧ S.2.1 c 9 = some (c + 51) ∧ S.1[c + 51]? = some (20, 25) ∧
  isRes S (c + 1) ∧ isChs S (c + 14) e (c + 1) ∧ isFat S (c + 15) ∧ isLog S (c + 19) ∧ isEl S e ∧ e + 31 ≤ c
def isTxt (S : SS) (t : Nat) : Prop := S.1[t]? = some (7, 6) ∧ S.2.1 t 0 = some (t + 1) ∧ S.1[t + 1]? = some (20, 60) ∧ S.2.1 t 1 = some (t + 2) ∧ S.1[t + 2]? = some (20, 8)
/-! SUMS -/
def sumTo (f : Nat → Int) : Nat → Int
  | 0 => 0
  | n + 1 => sumTo f n + f n
/-- the rows of a loop, from the lowest on -/
def foldUp {α : Type} (f : Nat → α → α) (a : α) : Nat → α
  | 0 => a
  | n + 1 => f n (foldUp f a n)
theorem fgt_c {a b : Option Value} {r s : List (Option Value)} (h : a = none ∨ a = b) (t : fgt r s) : fgt (a :: r) (b :: s) := ⟨h, t⟩
theorem fgt_n : fgt [] [] := trivial
theorem v_fgt2 {l : Launch} {g : GV} {mt : MT} {dp bc bs pc : Nat} {Z : ZZ} {ls ls2 : List (Option Value)} {st : List Value} {S : SS} {I : II} {X : XX} (k : V l g mt dp Z bc bs pc ls2 st S I X) (h : fgt ls2 ls) : V l g mt dp Z bc bs pc ls st S I X := v_fgt h k
/-- a number as an int keeps it -/
def wr (z : Int) : Int := (ii z).toInt
theorem ii_wr (z : Int) : ii (wr z) = ii z := ii_of _
theorem wr_rng (z : Int) : -2147483648 ≤ wr z ∧ wr z < 2147483648 := ii_rng _
theorem wr_id {z : Int} (h : -2147483648 ≤ z ∧ z < 2147483648) : wr z = z := ii_toInt h
theorem v_wr {l : Launch} {g : GV} {mt : MT} {dp bc bs pc : Nat} {Z : ZZ} {ls : List (Option Value)} {st : List Value} {S : SS} {I : II} {X : XX} {z : Int} (k : V l g mt dp Z bc bs pc ls (.int (ii (wr z)) :: st) S I X) : V l g mt dp Z bc bs pc ls (.int (ii z) :: st) S I X := by
  rw [ii_wr] at k
  exact k
/-- every number is one that an int holds -/
def RG (I : II) : Prop := ∀ a k, -2147483648 ≤ I a k ∧ I a k < 2147483648
theorem rg_up {I : II} {a k : Nat} {z : Int} (h : RG I) (hz : -2147483648 ≤ z ∧ z < 2147483648) : RG (up I a k z) := by
  intro b j
  unfold up
  split
  · dsimp only
    split
    · exact hz
    · exact h _ _
  · exact h _ _
theorem rg_cpy {I : II} {a0 a sp dp n : Nat} (h : RG I) : RG (cpy I a0 a sp dp n) := by
  intro b j
  unfold cpy
  split
  · dsimp only
    split
    · exact h _ _
    · exact h _ _
  · exact h _ _
theorem rg_fold {f : Nat → II → II} {I : II} (h : RG I) (hf : ∀ k J, RG J → RG (f k J)) : ∀ n, RG (foldUp f I n)
  | 0 => h
  | n + 1 => hf n _ (rg_fold h hf n)
/-- the int quotient -/
def dvI (a b : Int) : Int := (ii a / ii b).toInt
theorem dvI_ii (a b : Int) : ii a / ii b = ii (dvI a b) := (ii_of _).symm
theorem ii_ne0 {b : Int} (h : -2147483648 ≤ b ∧ b < 2147483648) (h0 : b ≠ 0) : ¬ ii b = 0 := fun q => h0 ((ii_eq h (by omega)).mp (q.trans ii_0))
