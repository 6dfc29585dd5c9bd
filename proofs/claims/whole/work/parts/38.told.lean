/-! a ring being told -/
def laI (I : wr_TI) (t n : Nat) (x : Int32) : wr_TI := wr_uI (wr_uI I (t + 2) n x) (t + 1) 2 (nI (n + 1))
def luI (I : wr_TI) (t n : Nat) (x : Int32) : wr_TI := wr_uI (laI I t n x) (t + 1) 3 (I (t + 1) 3 + 1)
def lcI (I : wr_TI) (t : Nat) : wr_TI := wr_uI (wr_uI I (t + 1) 2 0) (t + 1) 3 0
set_option maxHeartbeats 4000000 in
set_option maxRecDepth 100000 in
theorem cF_forget {l : Launch} {I : wr_TI} {L : wr_TL} {R : wr_TR} : wr_E l 0 mX1_forget [.ref 30] SH I L R none (wr_uI I 30 6 0) L R := by
  refine wv_pad 0 ?_
  show wr_V l 0 mX1_forget 0 [some (.ref 30)] [] SH I L R 0 0 _
  refine wv_aload_n dX1_forget_0 rfl ?_
  refine wv_iconst (v := 0) dX1_forget_1 (by decide) ?_
  refine wv_putI fX1_39 dX1_forget_2 rfl rfl rfl rfl (by first | assumption | rfl) ?_
  refine wv_ret (x := ()) rfl dX1_forget_5 ?_
  exact ⟨rfl, rfl, rfl, rfl, rfl⟩

set_option maxHeartbeats 4000000 in
set_option maxRecDepth 100000 in
theorem cL_clear {l : Launch} {I : wr_TI} {L : wr_TL} {R : wr_TR} (t : Nat) (hg : isG R t) : wr_E l 0 mX2_clear [.ref (t + 1)] SH I L R none (lcI I t) L R := by
  obtain ⟨q1, q2, q3, q4, q5, q6, q7, q8, r1, r2, r3, r4, r5, r6⟩ := id hg
  refine wv_pad 0 ?_
  show wr_V l 0 mX2_clear 0 [some (.ref (t + 1))] [] SH I L R 0 0 _
  refine wv_aload_n dX2_clear_0 rfl ?_
  refine wv_iconst (v := 0) dX2_clear_1 (by decide) ?_
  refine wv_putI fX2_18 dX2_clear_2 rfl rfl rfl rfl (by first | assumption | rfl) ?_
  refine wv_aload_n dX2_clear_5 rfl ?_
  refine wv_iconst (v := 0) dX2_clear_6 (by decide) ?_
  refine wv_putI fX2_22 dX2_clear_7 rfl rfl rfl rfl (by first | assumption | rfl) ?_
  refine wv_ret (x := ()) rfl dX2_clear_10 ?_
  exact ⟨rfl, rfl, rfl, rfl, rfl⟩

set_option maxHeartbeats 4000000 in
set_option maxRecDepth 100000 in
theorem cL_add {l : Launch} {I : wr_TI} {L : wr_TL} {R : wr_TR} (t n : Nat) (x : Int32) (hg : isG R t) (hl : I (t + 1) 2 = nI n) (hn : n < 260) : wr_E l 0 mX2_add [.ref (t + 1), .int x] SH I L R none (laI I t n x) L R := by
  obtain ⟨q1, q2, q3, q4, q5, q6, q7, q8, r1, r2, r3, r4, r5, r6⟩ := id hg
  refine wv_pad 0 ?_
  show wr_V l 0 mX2_add 0 [some (.ref (t + 1)), some (.int x)] [] SH I L R 0 0 _
  refine wv_aload_n dX2_add_0 rfl ?_
  refine wv_getI fX2_18 dX2_add_1 rfl (by first | assumption | rfl) ?_
  refine wv_if_lt (tgt := 39) dX2_add_4 (by decide) (fun h4 => absurd h4 (by rw [hl]; exact nI_pos (by omega))) (fun h4 => ?_)
  refine wv_aload_n dX2_add_7 rfl ?_
  refine wv_getI fX2_18 dX2_add_8 rfl (by first | assumption | rfl) ?_
  refine wv_aload_n dX2_add_11 rfl ?_
  refine wv_getR fX2_9 dX2_add_12 rfl (by first | assumption | rfl) (by first | exact hR _ _ _ rfl | assumption) ?_
  refine wv_alen dX2_add_15 (t := 0) (by decide) (by first | assumption | rfl) ?_
  refine wv_icmp_ge (tgt := 39) dX2_add_16 (by decide) (fun h16 => absurd h16 (by rw [hl]; exact nI_ge (b := 260) (by omega) (by omega))) (fun h16 => ?_)
  refine wv_aload_n dX2_add_19 rfl ?_
  refine wv_getR fX2_9 dX2_add_20 rfl (by first | assumption | rfl) (by first | exact hR _ _ _ rfl | assumption) ?_
  refine wv_aload_n dX2_add_23 rfl ?_
  refine wv_getI fX2_18 dX2_add_24 rfl (by first | assumption | rfl) ?_
  rw [hl]
  refine wv_iload_n dX2_add_27 rfl ?_
  refine wv_iastN dX2_add_28 (by first | assumption | rfl) (by omega) (by decide) ?_
  refine wv_aload_n dX2_add_29 rfl ?_
  refine wv_dup dX2_add_30 rfl ?_
  refine wv_getI fX2_18 dX2_add_31 rfl (by first | assumption | rfl) ?_
  refine wv_iconst (v := 1) dX2_add_34 (by decide) ?_
  refine wv_iadd dX2_add_35 ?_
  refine wv_putI fX2_18 dX2_add_36 rfl rfl rfl rfl (by first | assumption | rfl) ?_
  refine wv_ret (x := ()) rfl dX2_add_39 ?_
  refine ⟨rfl, rfl, ?_, rfl, rfl⟩
  have e : wr_uI I (t + 2) n x (t + 1) 2 = nI n := by simp [wr_uI, hl]
  unfold laI
  rw [e]
  congr 1
  exact nI_1 n

set_option maxHeartbeats 4000000 in
set_option maxRecDepth 100000 in
theorem cL_unit {l : Launch} {I : wr_TI} {L : wr_TL} {R : wr_TR} (t n : Nat) (x : Int32) (hg : isG R t) (hl : I (t + 1) 2 = nI n) (hn : n < 260) : wr_E l 1 mX2_addUnit [.ref (t + 1), .int x] SH I L R none (luI I t n x) L R := by
  obtain ⟨q1, q2, q3, q4, q5, q6, q7, q8, r1, r2, r3, r4, r5, r6⟩ := id hg
  refine wv_pad 0 ?_
  show wr_V l 1 mX2_addUnit 0 [some (.ref (t + 1)), some (.int x)] [] SH I L R 0 0 _
  refine wv_aload_n dX2_addUnit_0 rfl ?_
  refine wv_iload_n dX2_addUnit_1 rfl ?_
  refine wv_v1u oX2_add kX2_25 dX2_addUnit_2 (by omega) (by first | assumption | rfl) ⟨rfl, by decide⟩ (Nat.le_of_ble_eq_true rfl) (Nat.le_of_ble_eq_true rfl) (cL_add t n _ hg hl hn) ?_
  refine wv_aload_n dX2_addUnit_5 rfl ?_
  refine wv_dup dX2_addUnit_6 rfl ?_
  refine wv_getI fX2_22 dX2_addUnit_7 rfl (by first | assumption | rfl) ?_
  refine wv_iconst (v := 1) dX2_addUnit_10 (by decide) ?_
  refine wv_iadd dX2_addUnit_11 ?_
  refine wv_putI fX2_22 dX2_addUnit_12 rfl rfl rfl rfl (by first | assumption | rfl) ?_
  refine wv_ret (x := ()) rfl dX2_addUnit_15 ?_
  refine ⟨rfl, rfl, ?_, rfl, rfl⟩
  have e : laI I t n x (t + 1) 3 = I (t + 1) 3 := by simp [laI, wr_uI]
  unfold luI
  rw [e]

set_option maxHeartbeats 4000000 in
set_option maxRecDepth 100000 in
theorem cR_slack {l : Launch} {I : wr_TI} {L : wr_TL} {R : wr_TR} (t n : Nat) (x y z : Int32) (hg : isG R t) (hl : I t 4 = nI n) (hn : n < 6) : wr_E l 0 mX5_addSlack [.ref t, .int x, .int y, .int z] SH I L R none (wr_uI (wr_uI (wr_uI (wr_uI I (t + 4) n x) (t + 5) n y) (t + 6) n z) t 4 (nI (n + 1))) L R := by
  obtain ⟨q1, q2, q3, q4, q5, q6, q7, q8, r1, r2, r3, r4, r5, r6⟩ := id hg
  have k1 : wr_uI I (t + 4) n x t 4 = nI n := by simp [wr_uI, hl]
  have k2 : wr_uI (wr_uI I (t + 4) n x) (t + 5) n y t 4 = nI n := by simp [wr_uI, hl]
  have k3 : wr_uI (wr_uI (wr_uI I (t + 4) n x) (t + 5) n y) (t + 6) n z t 4 = nI n := by simp [wr_uI, hl]
  refine wv_pad 0 ?_
  show wr_V l 0 mX5_addSlack 0 [some (.ref t), some (.int x), some (.int y), some (.int z)] [] SH I L R 0 0 _
  refine wv_aload_n dX5_addSlack_0 rfl ?_
  refine wv_getI fX5_31 dX5_addSlack_1 rfl (by first | assumption | rfl) ?_
  refine wv_if_lt (tgt := 56) dX5_addSlack_4 (by decide) (fun h4 => absurd h4 (by rw [hl]; exact nI_pos (by omega))) (fun h4 => ?_)
  refine wv_aload_n dX5_addSlack_7 rfl ?_
  refine wv_getI fX5_31 dX5_addSlack_8 rfl (by first | assumption | rfl) ?_
  refine wv_bipush (v := 6) dX5_addSlack_11 (by decide) ?_
  refine wv_icmp_ge (tgt := 56) dX5_addSlack_13 (by decide) (fun h13 => absurd h13 (by rw [hl]; exact nI_ge (b := 6) (by omega) (by omega))) (fun h13 => ?_)
  refine wv_aload_n dX5_addSlack_16 rfl ?_
  refine wv_getR fX5_18 dX5_addSlack_17 rfl (by first | assumption | rfl) (by first | exact hR _ _ _ rfl | assumption) ?_
  refine wv_aload_n dX5_addSlack_20 rfl ?_
  refine wv_getI fX5_31 dX5_addSlack_21 rfl (by first | assumption | rfl) ?_
  rw [hl]
  refine wv_iload_n dX5_addSlack_24 rfl ?_
  refine wv_iastN dX5_addSlack_25 (by first | assumption | rfl) (by omega) (by decide) ?_
  refine wv_aload_n dX5_addSlack_26 rfl ?_
  refine wv_getR fX5_22 dX5_addSlack_27 rfl (by first | assumption | rfl) (by first | exact hR _ _ _ rfl | assumption) ?_
  refine wv_aload_n dX5_addSlack_30 rfl ?_
  refine wv_getI fX5_31 dX5_addSlack_31 rfl (by first | assumption | rfl) ?_
  rw [k1]
  refine wv_iload_n dX5_addSlack_34 rfl ?_
  refine wv_iastN dX5_addSlack_35 (by first | assumption | rfl) (by omega) (by decide) ?_
  refine wv_aload_n dX5_addSlack_36 rfl ?_
  refine wv_getR fX5_25 dX5_addSlack_37 rfl (by first | assumption | rfl) (by first | exact hR _ _ _ rfl | assumption) ?_
  refine wv_aload_n dX5_addSlack_40 rfl ?_
  refine wv_getI fX5_31 dX5_addSlack_41 rfl (by first | assumption | rfl) ?_
  rw [k2]
  refine wv_iload_n dX5_addSlack_44 rfl ?_
  refine wv_iastN dX5_addSlack_45 (by first | assumption | rfl) (by omega) (by decide) ?_
  refine wv_aload_n dX5_addSlack_46 rfl ?_
  refine wv_dup dX5_addSlack_47 rfl ?_
  refine wv_getI fX5_31 dX5_addSlack_48 rfl (by first | assumption | rfl) ?_
  rw [k3]
  refine wv_iconst (v := 1) dX5_addSlack_51 (by decide) ?_
  refine wv_iadd dX5_addSlack_52 ?_
  refine wv_putI fX5_31 dX5_addSlack_53 rfl rfl rfl rfl (by first | assumption | rfl) ?_
  refine wv_ret (x := ()) rfl dX5_addSlack_56 ?_
  refine ⟨rfl, rfl, ?_, rfl, rfl⟩
  congr 1
  exact nI_1 n

/-- the ring that an empty text tells, over what lay in the rows -/
def gE (c a b d : Nat → Int32) : RG := ((24, (fun _ => false), (fun _ => false), (fun _ => false)), (a, b, d, 0), (2, 4, 2, 0), ((fun e => if e = 0 then 10000 else if e = 1 then 0 else if e = 2 then 20004 else c e), 3))
theorem wfl_E (c a b d : Nat → Int32) : wfl (gC (gE c a b d)) 3 0 0 := by
  refine ⟨10000, rfl, Or.inr (Or.inl ⟨by omega, by omega, by omega, 0, rfl, Or.inl ⟨by omega, by omega, 20004, rfl, Or.inr (Or.inr (Or.inr ⟨by omega, by omega, by omega, rfl⟩))⟩⟩)⟩
set_option maxHeartbeats 4000000 in
set_option maxRecDepth 100000 in
theorem cR_empty {l : Launch} {I : wr_TI} {L : wr_TL} {R : wr_TR} (t : Nat) (hg : isG R t) : wr_P l 2 mX5_empty [.ref t] SH I L R (fun v s' I' L' R' => v = none ∧ s' = SH ∧ R' = R ∧ rgV I' L' t (gE (I (t + 2)) (I (t + 4)) (I (t + 5)) (I (t + 6))) ∧ I' (t + 1) 3 = 2 ∧ (∀ b, b ≠ t → b ≠ t + 1 → b ≠ t + 2 → I' b = I b) ∧ ∀ b, b ≠ t → L' b = L b) := by
  obtain ⟨q1, q2, q3, q4, q5, q6, q7, q8, r1, r2, r3, r4, r5, r6⟩ := id hg
  refine wv_pad 0 ?_
  show wr_V l 2 mX5_empty 0 [some (.ref t)] [] SH I L R 0 0 _
  refine wv_aload_n dX5_empty_0 rfl ?_
  refine wv_iconst (v := 0) dX5_empty_1 (by decide) ?_
  refine wv_putI fX5_31 dX5_empty_2 rfl rfl rfl rfl (by first | assumption | rfl) ?_
  refine wv_aload_n dX5_empty_5 rfl ?_
  refine wv_bipush (v := 24) dX5_empty_6 (by decide) ?_
  refine wv_putI fX5_35 dX5_empty_8 rfl rfl rfl rfl (by first | assumption | rfl) ?_
  refine wv_aload_n dX5_empty_11 rfl ?_
  refine wv_lconst (v := 0) dX5_empty_12 (by decide) ?_
  refine wv_putL fX5_38 dX5_empty_13 rfl rfl rfl rfl (by first | assumption | rfl) ?_
  refine wv_aload_n dX5_empty_16 rfl ?_
  refine wv_lconst (v := 0) dX5_empty_17 (by decide) ?_
  refine wv_putL fX5_42 dX5_empty_18 rfl rfl rfl rfl (by first | assumption | rfl) ?_
  refine wv_aload_n dX5_empty_21 rfl ?_
  refine wv_lconst (v := 0) dX5_empty_22 (by decide) ?_
  refine wv_putL fX5_45 dX5_empty_23 rfl rfl rfl rfl (by first | assumption | rfl) ?_
  refine wv_aload_n dX5_empty_26 rfl ?_
  refine wv_iconst (v := 2) dX5_empty_27 (by decide) ?_
  refine wv_putI fX5_48 dX5_empty_28 rfl rfl rfl rfl (by first | assumption | rfl) ?_
  refine wv_aload_n dX5_empty_31 rfl ?_
  refine wv_iconst (v := 4) dX5_empty_32 (by decide) ?_
  refine wv_putI fX5_51 dX5_empty_33 rfl rfl rfl rfl (by first | assumption | rfl) ?_
  refine wv_aload_n dX5_empty_36 rfl ?_
  refine wv_iconst (v := 2) dX5_empty_37 (by decide) ?_
  refine wv_putI fX5_54 dX5_empty_38 rfl rfl rfl rfl (by first | assumption | rfl) ?_
  refine wv_aload_n dX5_empty_41 rfl ?_
  refine wv_iconst (v := 0) dX5_empty_42 (by decide) ?_
  refine wv_putI fX5_57 dX5_empty_43 rfl rfl rfl rfl (by first | assumption | rfl) ?_
  refine wv_aload_n dX5_empty_46 rfl ?_
  refine wv_getR fX5_12 dX5_empty_47 rfl (by first | assumption | rfl) (by first | exact hR _ _ _ rfl | assumption) ?_
  refine wv_v0u oX2_clear kX5_60 dX5_empty_50 (by omega) (by first | assumption | rfl) ⟨rfl, by decide⟩ (Nat.le_of_ble_eq_true rfl) (Nat.le_of_ble_eq_true rfl) (cL_clear t hg) ?_
  refine wv_aload_n dX5_empty_53 rfl ?_
  refine wv_getR fX5_12 dX5_empty_54 rfl (by first | assumption | rfl) (by first | exact hR _ _ _ rfl | assumption) ?_
  refine wv_sipush (v := 10000) dX5_empty_57 (by decide) ?_
  refine wv_v1u oX2_addUnit kX5_63 dX5_empty_60 (by omega) (by first | assumption | rfl) ⟨rfl, by decide⟩ (Nat.le_of_ble_eq_true rfl) (Nat.le_of_ble_eq_true rfl) (cL_unit t 0 _ hg (by simp [lcI, wr_uI]; rfl) (by omega)) ?_
  refine wv_aload_n dX5_empty_63 rfl ?_
  refine wv_getR fX5_12 dX5_empty_64 rfl (by first | assumption | rfl) (by first | exact hR _ _ _ rfl | assumption) ?_
  refine wv_iconst (v := 0) dX5_empty_67 (by decide) ?_
  refine wv_v1u oX2_addUnit kX5_63 dX5_empty_68 (by omega) (by first | assumption | rfl) ⟨rfl, by decide⟩ (Nat.le_of_ble_eq_true rfl) (Nat.le_of_ble_eq_true rfl) (cL_unit t 1 _ hg (by simp [luI, laI, lcI, wr_uI]) (by omega)) ?_
  refine wv_aload_n dX5_empty_71 rfl ?_
  refine wv_getR fX5_12 dX5_empty_72 rfl (by first | assumption | rfl) (by first | exact hR _ _ _ rfl | assumption) ?_
  refine wv_sipush (v := 20004) dX5_empty_75 (by decide) ?_
  refine wv_v1u oX2_add kX5_67 dX5_empty_78 (by omega) (by first | assumption | rfl) ⟨rfl, by decide⟩ (Nat.le_of_ble_eq_true rfl) (Nat.le_of_ble_eq_true rfl) (cL_add t 2 _ hg (by simp [luI, laI, lcI, wr_uI]) (by omega)) ?_
  refine wv_ret (x := ()) rfl dX5_empty_81 ?_
  refine ⟨rfl, rfl, rfl, ?_, ?_, fun b h1 h2 h3 => ?_, fun b h1 => ?_⟩
  · refine ⟨by simp [luI, laI, lcI, wr_uI, gE, gN]; rfl, by show (6 : Nat) ≤ 24; decide, by show (24 : Nat) ≤ 40; decide, fun s => ?_, fun s => ?_, fun s => ?_, fun s _ => ⟨rfl, rfl, rfl⟩, ?_, ?_, ?_, ?_, by show (0 : Nat) ≤ 6; decide, ?_, by show (1 : Int32) ≤ 2 ∧ (2 : Int32) ≤ 9; decide, ?_, by show (0 : Int32) ≤ 4 ∧ (4 : Int32) ≤ 20; decide, ?_, by show (1 : Nat) ≤ 2 ∧ (2 : Nat) ≤ 9; decide, ?_, by show (0 : Int32) ≤ 0 ∧ (0 : Int32) ≤ 9; decide, ?_, ?_, by show (3 : Nat) ≤ 260; decide, wfl_E _ _ _ _⟩
    · simp [wr_uL, lb_0]; rfl
    · simp [wr_uL, lb_0]; rfl
    · simp [wr_uL, lb_0]; rfl
    · funext d; simp [luI, laI, lcI, wr_uI, gE]
    · funext d; simp [luI, laI, lcI, wr_uI, gE]
    · funext d; simp [luI, laI, lcI, wr_uI, gE]
    · simp [luI, laI, lcI, wr_uI, gE]; rfl
    · simp [luI, laI, lcI, wr_uI, gE, gUp]
    · simp [luI, laI, lcI, wr_uI, gE, gRe]
    · simp [luI, laI, lcI, wr_uI, gE, gSe]; rfl
    · simp [luI, laI, lcI, wr_uI, gE, gSh]
    · funext d; simp [luI, laI, lcI, wr_uI, gE, gC]; grind
    · simp [luI, laI, lcI, wr_uI, gE, gLn]
  · simp [luI, laI, lcI, wr_uI]
  · funext d
    simp [luI, laI, lcI, wr_uI, h1, h2, h3]
  · funext d
    simp [wr_uL, h1]

