theorem fold_s {α : Type} (f : Nat → α → α) (a : α) (n : Nat) : foldUp f a (n + 1) = f n (foldUp f a n) := rfl
theorem fold_0 {α : Type} (f : Nat → α → α) (a : α) : foldUp f a 0 = a := rfl
def psF (I : II) (k : Nat) : Int := if I 509 0 ≤ k ∨ ¬ btI (I 509 2).toNat k = 0 then 3 else 0
def pqS (I : II) (k : Nat) (J : II) : II := up (up (up (up (up (up (up J 525 k (psF I k)) 526 k (-1)) 527 k (-1)) 528 k 0) 529 k (-1)) 531 k 0) 532 k 0
theorem pqS_eq (I J : II) (k : Nat) : pqS I k J = up (up (up (up (up (up (up J 525 k (psF I k)) 526 k (-1)) 527 k (-1)) 528 k 0) 529 k (-1)) 531 k 0) 532 k 0 := rfl
def prI (I : II) : II := up (up (up (up I 508 15 0) 508 32 0) 508 39 0) 508 40 0
def prA (I : II) : II := foldUp (pqS I) (prI I) 8
def ppS (p : Nat) (J : II) : II := goM (up J 535 p 10000) p (-1) (-1)
theorem ppS_eq (p : Nat) (J : II) : ppS p J = goM (up J 535 p 10000) p (-1) (-1) := rfl
def prM (I : II) : II := foldUp ppS (prA I) (I 509 1).toNat
theorem pq_s {I : II} : ∀ k, foldUp (pqS I) (prI I) k 509 = I 509
  | 0 => by
    show prI I 509 = I 509
    unfold prI
    rw [up_ne (by omega), up_ne (by omega), up_ne (by omega), up_ne (by omega)]
  | k + 1 => by
    show pqS I k _ 509 = I 509
    unfold pqS
    rw [up_ne (by omega), up_ne (by omega), up_ne (by omega), up_ne (by omega), up_ne (by omega), up_ne (by omega), up_ne (by omega)]
    exact pq_s k
theorem goM_e {I : II} {p x : Nat} {b r : Int} (h1 : x ≠ 534) (h2 : x ≠ 536) (h3 : x ≠ 533) (h4 : x ≠ 531) (h5 : x ≠ 508) : goM I p b r x = I x := by
  unfold goM
  split
  · rw [up_ne h4, up_ne h3, up_ne h2, up_ne h1]
  · rw [up_ne h5, up_ne h3, up_ne h2, up_ne h1]
theorem pp_s {I : II} : ∀ p, foldUp ppS (prA I) p 509 = I 509
  | 0 => by
    rw [fold_0]
    exact pq_s 8
  | p + 1 => by
    show ppS p _ 509 = I 509
    unfold ppS
    rw [goM_e (by omega) (by omega) (by omega) (by omega) (by omega), up_ne (by omega)]
    exact pp_s p
theorem ps_rng (I : II) (k : Nat) : psF I k = 0 ∨ psF I k = 3 := by unfold psF; split <;> omega
theorem rg_pr {I : II} (h : RG I) : RG (prA I) := by
  refine rg_fold (rg_up (rg_up (rg_up (rg_up h (by omega)) (by omega)) (by omega)) (by omega)) (fun k J hJ => ?_) 8
  have := ps_rng I k
  exact rg_up (rg_up (rg_up (rg_up (rg_up (rg_up (rg_up hJ (by omega)) (by omega)) (by omega)) (by omega)) (by omega)) (by omega)) (by omega)
theorem rg_go {I : II} {p : Nat} {b r : Int} (h : RG I) (hW : WfM I) (hp : p < 25) (hb : -1 ≤ b ∧ b ≤ 8) (hr : -2147483648 ≤ r ∧ r < 2147483648) : RG (goM I p b r) := by
  have w := hW.2.2.2.2.1 p hp
  have hk : goK I p b ≤ 17 := by
    have := (nxM_le I p ((mLn I p).toNat - (b + 1).toNat) (b + 1).toNat).2
    unfold goK
    omega
  unfold goM
  split
  · exact rg_up (rg_up (rg_up (rg_up h (by omega)) hr) (h _ _)) (wr_rng _)
  · exact rg_up (rg_up (rg_up (rg_up h (by omega)) hr) (by omega)) (wr_rng _)
theorem rg_pp {I : II} (h : RG I) (hW : WfM I) : ∀ p, p ≤ 25 → RG (foldUp ppS (prA I) p)
  | 0, _ => rg_pr h
  | p + 1, hp => by
    rw [fold_s, ppS_eq]
    exact rg_go (rg_up (rg_pp h hW p (by omega)) (by omega)) (WfM_of hW ((up_ne (by omega)).trans (pp_s p))) (by omega) (by omega) (by omega)
