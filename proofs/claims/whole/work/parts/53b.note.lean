set_option maxRecDepth 100000 in
set_option maxHeartbeats 4000000 in
theorem k_elect {l : Launch} {g : GV} {S : SS} {I : II} {X : XX} {r s q w u : Nat} {rs : Int} (hfl : l.stackTraces = false) (hM : isMod S) (hW : WfM I) (hRG : RG I) (hrr : I 508 15 = (r : Int)) (hs : s < 256) (hr : r < 9) (hq : lkV I r s 1 = (q : Int)) (hw : I 508 32 = (w : Int)) (hw8 : w < 8) (hu : I 522 r = (u : Int)) (hu8 : u < 256) : CE l g mX9_elect 3 [.ref 508, .int (ii (s : Int)), .int (ii rs)] S I X none (emM I r s rs q) := by
  obtain ⟨m0, ⟨p509, q509⟩, ⟨p510, q510⟩, ⟨p511, q511⟩, ⟨p512, q512⟩, ⟨p513, q513⟩, ⟨p514, q514⟩, ⟨p515, q515⟩, ⟨p516, q516⟩, ⟨p517, q517⟩, ⟨p518, q518⟩, ⟨p519, q519⟩, ⟨p520, q520⟩, ⟨p521, q521⟩, ⟨p522, q522⟩, ⟨p523, q523⟩, ⟨p524, q524⟩, ⟨p525, q525⟩, ⟨p526, q526⟩, ⟨p527, q527⟩, ⟨p528, q528⟩, ⟨p529, q529⟩, ⟨p530, q530⟩, ⟨p531, q531⟩, ⟨p532, q532⟩, ⟨p533, q533⟩, ⟨p534, q534⟩, ⟨p535, q535⟩, ⟨p536, q536⟩, ⟨p537, q537⟩, ⟨p538, q538⟩, ⟨p539, q539⟩, ⟨p540, q540⟩⟩ := id hM
  obtain ⟨w0, w1, w2, w3, w4, w5, w6, w7, w8, w9, w10⟩ := id hW
  have hq8 : q < 8 := by
    have := lkF_rng (f := fun k => I 509 (7 + k)) (s := (lkQ I r s 1 r).1) (m := 1) (fun k hk => w6 k hk) (I 509 0).toNat (by omega)
    have e : lkV I r s 1 = lkF (fun k => I 509 (7 + k)) (lkQ I r s 1 r).1 1 (I 509 0).toNat := rfl
    omega
  refine v_startE hfl rfl (by decide) (Nat.le_of_ble_eq_true rfl) (ls := [some (.ref 508), some (.int (ii (s : Int))), some (.int (ii rs)), none]) rfl ?_
  refine v_aload_n dX9_elect_0 rfl ?_
  refine v_iload_n dX9_elect_1 rfl ?_
  refine v_iconst dX9_elect_2 ?_
  refine v_cV2 dX9_elect_3 lk_X9_247 (by assumption) (by decide) rfl (k_look hfl hM hW hRG hrr hs hr (Or.inr rfl)) (by decide) (Nat.le_of_ble_eq_true rfl) ?_ rfl
  rw [hq]
  refine v_istn3 dX9_elect_6 rfl ?_
  refine v_aload_n dX9_elect_7 rfl ?_
  refine v_getr dX9_elect_8 fr_X9_62 (by assumption) (by decide) rfl (by assumption) ?_
  refine v_iload_n dX9_elect_11 rfl ?_
  refine v_iconst dX9_elect_12 ?_
  refine v_iast (j := q) dX9_elect_13 (by assumption) (by first | rfl | omega) (by omega) ?_
  refine v_aload_n dX9_elect_14 rfl ?_
  refine v_getr dX9_elect_15 fr_X9_65 (by assumption) (by decide) rfl (by assumption) ?_
  refine v_iload_n dX9_elect_18 rfl ?_
  refine v_aload_n dX9_elect_19 rfl ?_
  refine v_geti dX9_elect_20 fr_X9_212 (by assumption) (by decide) rfl ?_
  rw [up_ne (by omega), lkM_f (by omega) (by omega), hrr]
  refine v_iast (j := q) dX9_elect_23 (by assumption) (by first | rfl | omega) (by omega) ?_
  refine v_aload_n dX9_elect_24 rfl ?_
  refine v_getr dX9_elect_25 fr_X9_68 (by assumption) (by decide) rfl (by assumption) ?_
  refine v_iload_n dX9_elect_28 rfl ?_
  refine v_aload_n dX9_elect_29 rfl ?_
  refine v_geti dX9_elect_30 fr_X9_215 (by assumption) (by decide) rfl ?_
  rw [up_ne (by omega), up_ne (by omega), lkM_f (by omega) (by omega), hw]
  refine v_iast (j := q) dX9_elect_33 (by assumption) (by first | rfl | omega) (by omega) ?_
  refine v_aload_n dX9_elect_34 rfl ?_
  refine v_getr dX9_elect_35 fr_X9_71 (by assumption) (by decide) rfl (by assumption) ?_
  refine v_iload_n dX9_elect_38 rfl ?_
  refine v_iload_n dX9_elect_39 rfl ?_
  refine v_iast (j := q) dX9_elect_40 (by assumption) (by first | rfl | omega) (by omega) ?_
  refine v_aload_n dX9_elect_41 rfl ?_
  refine v_getr dX9_elect_42 fr_X9_77 (by assumption) (by decide) rfl (by assumption) ?_
  refine v_aload_n dX9_elect_45 rfl ?_
  refine v_geti dX9_elect_46 fr_X9_215 (by assumption) (by decide) rfl ?_
  rw [up_ne (by omega), up_ne (by omega), up_ne (by omega), up_ne (by omega), lkM_f (by omega) (by omega), hw]
  refine v_iload_n dX9_elect_49 rfl ?_
  refine v_iast (j := w) dX9_elect_50 (by assumption) rfl (by omega) ?_
  refine v_aload_n dX9_elect_51 rfl ?_
  refine v_dup dX9_elect_52 rfl ?_
  refine v_geti dX9_elect_53 fr_X9_215 (by assumption) (by decide) rfl ?_
  rw [up_ne (by omega), up_ne (by omega), up_ne (by omega), up_ne (by omega), up_ne (by omega), lkM_f (by omega) (by omega), hw]
  refine v_iconst dX9_elect_56 ?_
  refine v_iadd dX9_elect_57 ?_
  refine v_puti dX9_elect_58 fr_X9_215 (by assumption) (by decide) rfl ?_
  refine v_aload_n dX9_elect_61 rfl ?_
  refine v_getr dX9_elect_62 fr_X9_53 (by assumption) (by decide) rfl (by assumption) ?_
  refine v_aload_n dX9_elect_65 rfl ?_
  refine v_geti dX9_elect_66 fr_X9_212 (by assumption) (by decide) rfl ?_
  rw [up_nk (by omega), up_ne (by omega), up_ne (by omega), up_ne (by omega), up_ne (by omega), up_ne (by omega), lkM_f (by omega) (by omega), hrr]
  refine v_dup2 dX9_elect_69 rfl rfl ?_
  refine v_iald (j := r) dX9_elect_70 (by assumption) rfl (by omega) ?_
  rw [up_ne (by omega), up_ne (by omega), up_ne (by omega), up_ne (by omega), up_ne (by omega), up_ne (by omega), lkM_ne (by omega), hu]
  refine v_iconst dX9_elect_71 ?_
  refine v_iload_n dX9_elect_72 rfl ?_
  refine v_ishl (z := ((2 ^ q : Nat) : Int)) dX9_elect_73 (shl_b q hq8) ?_
  refine v_ior (z := ((u ||| 2 ^ q : Nat) : Int)) dX9_elect_74 (or_b _ hu8 q hq8) ?_
  refine v_iast (j := r) dX9_elect_75 (by assumption) rfl (by omega) ?_
  exact v_vE dX9_elect_76 rfl (by unfold emM; rw [hw, hu]; rfl)
