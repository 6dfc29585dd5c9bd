/-! the class's constructor, the model's -/
def R00 : wr_TR := fun _ _ => 0
def L00 : wr_TL := fun _ _ => 0
def R7 : wr_TR := wr_uR (cR (wr_uR (cR (wr_uR (cR (wr_uR (wr_uR (wr_uR (wr_uR (wr_uR (wr_uR (fR (wr_uR (wr_uR (wr_uR (cR (wr_uR (cR (wr_uR (wr_uR (wr_uR (wr_uR (rR (wr_uR (rR (wr_uR (wr_uR (R00) 1 0 (2 + 1)) 0 0 (1 + 1)) 3) 0 1 (3 + 1)) 10) 0 2 (10 + 1)) 17 0 (1 + 1)) 17 1 (10 + 1)) 0 3 (17 + 1)) 18) 0 4 (18 + 1)) 23) 0 5 (23 + 1)) 0 6 (28 + 1)) 0 7 (29 + 1)) 30) 0 8 (30 + 1)) 37 0 (3 + 1)) 0 9 (37 + 1)) 38 0 (3 + 1)) 0 10 (38 + 1)) 0 11 (39 + 1)) 40) 28 0 (40 + 1)) 45) 28 1 (45 + 1)) 50) 28 2 (50 + 1)
def I7 (J : wr_TI) : wr_TI := cI (cI (cI (fI (cI (cI (wr_uI J 17 10 (-1)) 18) 23) 30) 40) 45) 50
theorem I7_n {J : wr_TI} {b : Nat} (h1 : b ≠ 17) (h2 : b ≠ 18) (h3 : b ≠ 23) (h4 : b ≠ 30) (h5 : b ≠ 40) (h6 : b ≠ 45) (h7 : b ≠ 50) : I7 J b = J b := by
  unfold I7 cI fI
  rw [wr_uI_ne h7, wr_uI_ne h6, wr_uI_ne h5, wr_uI_ne h4, wr_uI_ne h4, wr_uI_ne h3, wr_uI_ne h2, wr_uI_ne h1]
def Q7 (I : wr_TI) : wr_TQ := fun v s' I' L' R' => v = none ∧ s' = SH.take 55 ∧ R' = R7 ∧ zz 55 I' L' R' ∧ (∃ c a b d, rgV I' L' 3 (gE c a b d)) ∧ I' 4 3 = 2 ∧ (∀ k, I' 1 k = 0) ∧ I' 17 9 = 0 ∧ I' 17 10 = -1 ∧ I' 18 6 = 0 ∧ I' 18 7 = 0 ∧ I' 18 8 = 1 ∧ (∀ j k, j = 19 ∨ j = 20 ∨ j = 21 ∨ j = 29 → I' j k = 0) ∧ (∀ k, L' 18 k = 0) ∧ I' 30 6 = 0 ∧ I' 30 7 = 0 ∧ I' 1000300 = I 1000300
set_option maxHeartbeats 4000000 in
set_option maxRecDepth 100000 in
theorem n_wave {l : Launch} {I : wr_TI} (hz : zz 1 I L00 R00) : wr_V l 4 mX7_init 0 (wr_ent [.ref 0]) [] (SH.take 1) I L00 R00 54 2336 (Q7 I) := by
  have h00 := hz
  refine wv_pad 1 ?_
  show wr_V l 4 mX7_init 0 [some (.ref 0), none] [] (SH.take 1) I L00 R00 54 2336 _
  refine wv_aload_n dX7_init_0 rfl ?_
  refine wv_oinit oLX7 oJi oJc dX7_init_1 (by decide) (Nat.le_of_ble_eq_true rfl) ?_
  refine wv_aload_n dX7_init_4 rfl ?_
  refine wv_new (ci := 6) (j := 1) (sh' := (SH.take 2)) (mc' := 53) (ms' := 2334) (by decide) clX7_9 ib6 it6 dX7_init_5 (by decide +kernel) (by decide) (by decide +kernel) (hz _ (by decide) (by decide)) rfl rfl ?_
  replace hz := zz_mo (m := 2) hz (by decide)
  refine wv_dup dX7_init_8 rfl ?_
  refine wv_iE (j := 1) (as := []) (mc' := 1) (ms' := 800) (m2 := 52) (s2 := 1534) (d' := 1) oX6_init rfl kX7_11 dX7_init_9 (by decide) rfl rfl rfl (Nat.le_of_ble_eq_true rfl) rfl (Nat.le_of_ble_eq_true rfl) (n_tape 1 (by decide) (SH.take 2) (SH.take 3) (by decide +kernel) (by decide +kernel) (by decide +kernel) (by decide +kernel) hz) ?_
  replace hz := zz_mo (m := 3) (zz_R (j := 1) (k := 0) (x := 1 + 1 + 1) hz (by decide)) (by decide)
  refine wv_putFR (ci := 7) (k := 0) (by decide) (by decide) gX7_12 dX7_init_12 rfl rfl rfl rfl (by decide +kernel) ?_
  replace hz := zz_R (j := 0) (k := 0) (x := 1 + 1) hz (by decide)
  refine wv_aload_n dX7_init_15 rfl ?_
  refine wv_new (ci := 5) (j := 3) (sh' := (SH.take 4)) (mc' := 51) (ms' := 1521) (by decide) clX7_16 ib5 it5 dX7_init_16 (by decide +kernel) (by decide) (by decide +kernel) (hz _ (by decide) (by decide)) rfl rfl ?_
  replace hz := zz_mo (m := 4) hz (by decide)
  refine wv_dup dX7_init_19 rfl ?_
  refine wv_iQ (j := 3) (as := []) (mc' := 6) (ms' := 312) (m2 := 45) (s2 := 1209) (d' := 3) oX5_init rfl kX7_18 dX7_init_20 (by decide) rfl rfl rfl (Nat.le_of_ble_eq_true rfl) rfl (Nat.le_of_ble_eq_true rfl) (n_ring 3 (by decide) (SH.take 4) (SH.take 5) (SH.take 6) (SH.take 7) (SH.take 8) (SH.take 9) (SH.take 10) (by decide +kernel) (by decide +kernel) (by decide +kernel) (by decide +kernel) (by decide +kernel) (by decide +kernel) (by decide +kernel) (by decide +kernel) (by decide +kernel) (by decide +kernel) (by decide +kernel) (by decide +kernel) (by decide +kernel) (by decide +kernel) (by decide +kernel) (by decide +kernel) (by decide +kernel) (by decide +kernel) (by decide +kernel) (by decide +kernel) (by decide +kernel) (by decide +kernel) (by decide +kernel) (by decide +kernel) (by decide +kernel) (by decide +kernel) (by decide +kernel) (by decide +kernel) hz) (fun v1 x1 J1 K1 y1 q1 => ?_)
  obtain ⟨rfl, rfl, rfl, a14, a15, a16, a17⟩ := q1
  replace hz := zz_r (t := 3) hz a16 a17
  refine wv_putR fX7_19 dX7_init_23 rfl rfl (by decide +kernel) ?_
  replace hz := zz_R (j := 0) (k := 1) (x := 3 + 1) hz (by decide)
  refine wv_aload_n dX7_init_26 rfl ?_
  refine wv_new (ci := 5) (j := 10) (sh' := (SH.take 11)) (mc' := 44) (ms' := 1196) (by decide) clX7_16 ib5 it5 dX7_init_27 (by decide +kernel) (by decide) (by decide +kernel) (hz _ (by decide) (by decide)) rfl rfl ?_
  replace hz := zz_mo (m := 11) hz (by decide)
  refine wv_dup dX7_init_30 rfl ?_
  refine wv_iQ (j := 10) (as := []) (mc' := 6) (ms' := 312) (m2 := 38) (s2 := 884) (d' := 3) oX5_init rfl kX7_18 dX7_init_31 (by decide) rfl rfl rfl (Nat.le_of_ble_eq_true rfl) rfl (Nat.le_of_ble_eq_true rfl) (n_ring 10 (by decide) (SH.take 11) (SH.take 12) (SH.take 13) (SH.take 14) (SH.take 15) (SH.take 16) (SH.take 17) (by decide +kernel) (by decide +kernel) (by decide +kernel) (by decide +kernel) (by decide +kernel) (by decide +kernel) (by decide +kernel) (by decide +kernel) (by decide +kernel) (by decide +kernel) (by decide +kernel) (by decide +kernel) (by decide +kernel) (by decide +kernel) (by decide +kernel) (by decide +kernel) (by decide +kernel) (by decide +kernel) (by decide +kernel) (by decide +kernel) (by decide +kernel) (by decide +kernel) (by decide +kernel) (by decide +kernel) (by decide +kernel) (by decide +kernel) (by decide +kernel) (by decide +kernel) hz) (fun v2 x2 J2 K2 y2 q2 => ?_)
  obtain ⟨rfl, rfl, rfl, a24, a25, a26, a27⟩ := q2
  replace hz := zz_r (t := 10) hz a26 a27
  refine wv_putR fX7_23 dX7_init_34 rfl rfl (by decide +kernel) ?_
  replace hz := zz_R (j := 0) (k := 2) (x := 10 + 1) hz (by decide)
  refine wv_aload_n dX7_init_37 rfl ?_
  refine wv_new (ci := 4) (j := 17) (sh' := (SH.take 18)) (mc' := 37) (ms' := 873) (by decide) clX7_26 ib4 it4 dX7_init_38 (by decide +kernel) (by decide) (by decide +kernel) (hz _ (by decide) (by decide)) rfl rfl ?_
  replace hz := zz_mo (m := 18) hz (by decide)
  refine wv_dup dX7_init_41 rfl ?_
  refine wv_aload_n dX7_init_42 rfl ?_
  refine wv_getR (r := 1) fX7_12 dX7_init_43 rfl (by decide +kernel) (by decide +kernel) ?_
  refine wv_aload_n dX7_init_46 rfl ?_
  refine wv_getR (r := 10) fX7_23 dX7_init_47 rfl (by decide +kernel) (by decide +kernel) ?_
  refine wv_iE (j := 17) (as := [.ref 1, .ref 10]) (mc' := 0) (ms' := 0) (m2 := 37) (s2 := 873) (d' := 1) oX4_init rfl kX7_28 dX7_init_50 (by decide) rfl rfl rfl (Nat.le_of_ble_eq_true rfl) rfl (Nat.le_of_ble_eq_true rfl) (n_reader 17 1 10 (by decide +kernel)) ?_
  replace hz := zz_R (j := 17) (k := 1) (x := 10 + 1) (zz_R (j := 17) (k := 0) (x := 1 + 1) (zz_I (j := 17) (k := 10) (x := -1) hz (by decide)) (by decide)) (by decide)
  refine wv_putFR (ci := 7) (k := 3) (by decide) (by decide) gX7_31 dX7_init_53 rfl rfl rfl rfl (by decide +kernel) ?_
  replace hz := zz_R (j := 0) (k := 3) (x := 17 + 1) hz (by decide)
  refine wv_aload_n dX7_init_56 rfl ?_
  refine wv_new (ci := 0) (j := 18) (sh' := (SH.take 19)) (mc' := 36) (ms' := 864) (by decide) clX7_35 ib0 it0 dX7_init_57 (by decide +kernel) (by decide) (by decide +kernel) (hz _ (by decide) (by decide)) rfl rfl ?_
  replace hz := zz_mo (m := 19) hz (by decide)
  refine wv_dup dX7_init_60 rfl ?_
  refine wv_iE (j := 18) (as := []) (mc' := 4) (ms' := 90) (m2 := 32) (s2 := 774) (d' := 1) oX0_init rfl kX7_37 dX7_init_61 (by decide) rfl rfl rfl (Nat.le_of_ble_eq_true rfl) rfl (Nat.le_of_ble_eq_true rfl) (n_crowd 18 (by decide) (SH.take 19) (SH.take 20) (SH.take 21) (SH.take 22) (SH.take 23) (by decide +kernel) (by decide +kernel) (by decide +kernel) (by decide +kernel) (by decide +kernel) (by decide +kernel) (by decide +kernel) (by decide +kernel) (by decide +kernel) (by decide +kernel) (by decide +kernel) (by decide +kernel) (by decide +kernel) hz) ?_
  replace hz := zz_c (t := 18) hz
  refine wv_putFR (ci := 7) (k := 4) (by decide) (by decide) gX7_38 dX7_init_64 rfl rfl rfl rfl (by decide +kernel) ?_
  replace hz := zz_R (j := 0) (k := 4) (x := 18 + 1) hz (by decide)
  refine wv_aload_n dX7_init_67 rfl ?_
  refine wv_new (ci := 0) (j := 23) (sh' := (SH.take 24)) (mc' := 31) (ms' := 765) (by decide) clX7_35 ib0 it0 dX7_init_68 (by decide +kernel) (by decide) (by decide +kernel) (hz _ (by decide) (by decide)) rfl rfl ?_
  replace hz := zz_mo (m := 24) hz (by decide)
  refine wv_dup dX7_init_71 rfl ?_
  refine wv_iE (j := 23) (as := []) (mc' := 4) (ms' := 90) (m2 := 27) (s2 := 675) (d' := 1) oX0_init rfl kX7_37 dX7_init_72 (by decide) rfl rfl rfl (Nat.le_of_ble_eq_true rfl) rfl (Nat.le_of_ble_eq_true rfl) (n_crowd 23 (by decide) (SH.take 24) (SH.take 25) (SH.take 26) (SH.take 27) (SH.take 28) (by decide +kernel) (by decide +kernel) (by decide +kernel) (by decide +kernel) (by decide +kernel) (by decide +kernel) (by decide +kernel) (by decide +kernel) (by decide +kernel) (by decide +kernel) (by decide +kernel) (by decide +kernel) (by decide +kernel) hz) ?_
  replace hz := zz_c (t := 23) hz
  refine wv_putFR (ci := 7) (k := 5) (by decide) (by decide) gX7_42 dX7_init_75 rfl rfl rfl rfl (by decide +kernel) ?_
  replace hz := zz_R (j := 0) (k := 5) (x := 23 + 1) hz (by decide)
  refine wv_aload_n dX7_init_78 rfl ?_
  refine wv_iconst (v := 3) dX7_init_79 (by decide) ?_
  refine wv_anew (n := 3) (j := 28) (sh' := (SH.take 29)) (mc' := 26) (ms' := 672) clX7_35 dX7_init_80 (by decide +kernel) (by decide) (by decide +kernel) (by decide) (by decide +kernel) (hz _ (by decide) (by decide)) rfl rfl ?_
  replace hz := zz_mo (m := 29) hz (by decide)
  refine wv_putFR (ci := 7) (k := 6) (by decide) (by decide) gX7_45 dX7_init_83 rfl rfl rfl rfl (by decide +kernel) ?_
  replace hz := zz_R (j := 0) (k := 6) (x := 28 + 1) hz (by decide)
  refine wv_aload_n dX7_init_86 rfl ?_
  refine wv_iconst (v := 3) dX7_init_87 (by decide) ?_
  refine wv_newa (t := 2) (n := 3) (j := 29) (sh' := (SH.take 30)) (mc' := 25) (ms' := 669) (by decide) rfl aZ dX7_init_88 (by decide +kernel) (by decide) (by decide +kernel) (by decide) (by decide +kernel) (hz _ (by decide) (by decide)) rfl rfl ?_
  refine wv_putFR (ci := 7) (k := 7) (by decide) (by decide) gX7_49 dX7_init_90 rfl rfl rfl rfl (by decide +kernel) ?_
  replace hz := zz_R (j := 0) (k := 7) (x := 29 + 1) hz (by decide)
  refine wv_aload_n dX7_init_93 rfl ?_
  refine wv_new (ci := 1) (j := 30) (sh' := (SH.take 31)) (mc' := 24) (ms' := 659) (by decide) clX7_53 ib1 it1 dX7_init_94 (by decide +kernel) (by decide) (by decide +kernel) (hz _ (by decide) (by decide)) rfl rfl ?_
  replace hz := zz_mo (m := 31) hz (by decide)
  refine wv_dup dX7_init_97 rfl ?_
  refine wv_iE (j := 30) (as := []) (mc' := 6) (ms' := 320) (m2 := 18) (s2 := 339) (d' := 1) oX1_init rfl kX7_55 dX7_init_98 (by decide) rfl rfl rfl (Nat.le_of_ble_eq_true rfl) rfl (Nat.le_of_ble_eq_true rfl) (n_films 30 (by decide) (SH.take 31) (SH.take 32) (SH.take 33) (SH.take 34) (SH.take 35) (SH.take 36) (SH.take 37) (by decide +kernel) (by decide +kernel) (by decide +kernel) (by decide +kernel) (by decide +kernel) (by decide +kernel) (by decide +kernel) (by decide +kernel) (by decide +kernel) (by decide +kernel) (by decide +kernel) (by decide +kernel) (by decide +kernel) (by decide +kernel) (by decide +kernel) (by decide +kernel) (by decide +kernel) (by decide +kernel) (by decide +kernel) hz) ?_
  replace hz := zz_f (t := 30) hz
  refine wv_putFR (ci := 7) (k := 8) (by decide) (by decide) gX7_56 dX7_init_101 rfl rfl rfl rfl (by decide +kernel) ?_
  replace hz := zz_R (j := 0) (k := 8) (x := 30 + 1) hz (by decide)
  refine wv_aload_n dX7_init_104 rfl ?_
  refine wv_new (ci := 3) (j := 37) (sh' := (SH.take 38)) (mc' := 17) (ms' := 326) (by decide) clX7_60 ib3 it3 dX7_init_105 (by decide +kernel) (by decide) (by decide +kernel) (hz _ (by decide) (by decide)) rfl rfl ?_
  replace hz := zz_mo (m := 38) hz (by decide)
  refine wv_dup dX7_init_108 rfl ?_
  refine wv_aload_n dX7_init_109 rfl ?_
  refine wv_getR (r := 3) fX7_19 dX7_init_110 rfl (by decide +kernel) (by decide +kernel) ?_
  refine wv_iE (j := 37) (as := [.ref 3]) (mc' := 0) (ms' := 0) (m2 := 17) (s2 := 326) (d' := 1) oX3_init rfl kX7_62 dX7_init_113 (by decide) rfl rfl rfl (Nat.le_of_ble_eq_true rfl) rfl (Nat.le_of_ble_eq_true rfl) (n_plain 37 3 (by decide +kernel)) ?_
  replace hz := zz_R (j := 37) (k := 0) (x := 3 + 1) hz (by decide)
  refine wv_putFR (ci := 7) (k := 9) (by decide) (by decide) gX7_65 dX7_init_116 rfl rfl rfl rfl (by decide +kernel) ?_
  replace hz := zz_R (j := 0) (k := 9) (x := 37 + 1) hz (by decide)
  refine wv_aload_n dX7_init_119 rfl ?_
  refine wv_new (ci := 3) (j := 38) (sh' := (SH.take 39)) (mc' := 16) (ms' := 313) (by decide) clX7_60 ib3 it3 dX7_init_120 (by decide +kernel) (by decide) (by decide +kernel) (hz _ (by decide) (by decide)) rfl rfl ?_
  replace hz := zz_mo (m := 39) hz (by decide)
  refine wv_dup dX7_init_123 rfl ?_
  refine wv_aload_n dX7_init_124 rfl ?_
  refine wv_getR (r := 3) fX7_19 dX7_init_125 rfl (by decide +kernel) (by decide +kernel) ?_
  refine wv_iE (j := 38) (as := [.ref 3]) (mc' := 0) (ms' := 0) (m2 := 16) (s2 := 313) (d' := 1) oX3_init rfl kX7_62 dX7_init_128 (by decide) rfl rfl rfl (Nat.le_of_ble_eq_true rfl) rfl (Nat.le_of_ble_eq_true rfl) (n_plain 38 3 (by decide +kernel)) ?_
  replace hz := zz_R (j := 38) (k := 0) (x := 3 + 1) hz (by decide)
  refine wv_putFR (ci := 7) (k := 10) (by decide) (by decide) gX7_69 dX7_init_131 rfl rfl rfl rfl (by decide +kernel) ?_
  replace hz := zz_R (j := 0) (k := 10) (x := 38 + 1) hz (by decide)
  refine wv_aload_n dX7_init_134 rfl ?_
  refine wv_bipush (v := 16) dX7_init_135 (by decide) ?_
  refine wv_newa (t := 3) (n := 16) (j := 39) (sh' := (SH.take 40)) (mc' := 15) (ms' := 297) (by decide) rfl aJ dX7_init_137 (by decide +kernel) (by decide) (by decide +kernel) (by decide) (by decide +kernel) (hz _ (by decide) (by decide)) rfl rfl ?_
  refine wv_putFR (ci := 7) (k := 11) (by decide) (by decide) gX7_72 dX7_init_139 rfl rfl rfl rfl (by decide +kernel) ?_
  replace hz := zz_R (j := 0) (k := 11) (x := 39 + 1) hz (by decide)
  refine wv_iconst (v := nI 0) dX7_init_142 rfl ?_
  refine wv_istore_k (i := 1) dX7_init_143 rfl (by decide) ?_
  refine wv_iload_n dX7_init_144 rfl ?_
  refine wv_aload_n dX7_init_145 rfl ?_
  refine wv_getR (r := 28) fX7_45 dX7_init_146 rfl (by decide +kernel) (by decide +kernel) ?_
  refine wv_alen (n := 3) dX7_init_149 (t := 4) (by decide) (by decide +kernel) ?_
  refine wv_icmp_ge (tgt := 172) dX7_init_150 (by decide) (fun h => absurd h (by decide +kernel)) (fun _ => ?_)
  refine wv_aload_n dX7_init_153 rfl ?_
  refine wv_getR (r := 28) fX7_45 dX7_init_154 rfl (by decide +kernel) (by decide +kernel) ?_
  refine wv_iload_n dX7_init_157 rfl ?_
  refine wv_new (ci := 0) (j := 40) (sh' := (SH.take 41)) (mc' := 14) (ms' := 288) (by decide) clX7_35 ib0 it0 dX7_init_158 (by decide +kernel) (by decide) (by decide +kernel) (hz _ (by decide) (by decide)) rfl rfl ?_
  replace hz := zz_mo (m := 41) hz (by decide)
  refine wv_dup dX7_init_161 rfl ?_
  refine wv_iE (j := 40) (as := []) (mc' := 4) (ms' := 90) (m2 := 10) (s2 := 198) (d' := 1) oX0_init rfl kX7_37 dX7_init_162 (by decide) rfl rfl rfl (Nat.le_of_ble_eq_true rfl) rfl (Nat.le_of_ble_eq_true rfl) (n_crowd 40 (by decide) (SH.take 41) (SH.take 42) (SH.take 43) (SH.take 44) (SH.take 45) (by decide +kernel) (by decide +kernel) (by decide +kernel) (by decide +kernel) (by decide +kernel) (by decide +kernel) (by decide +kernel) (by decide +kernel) (by decide +kernel) (by decide +kernel) (by decide +kernel) (by decide +kernel) (by decide +kernel) hz) ?_
  replace hz := zz_c (t := 40) hz
  refine wv_aast (k := 0) (n := 3) dX7_init_165 (by decide +kernel) (by decide +kernel) (by decide) (by decide) ?_
  replace hz := zz_R (j := 28) (k := 0) (x := 40 + 1) hz (by decide)
  refine wv_iinc (v := nI (0 + 1)) dX7_init_166 rfl (nI_1 0) (by decide) ?_
  refine wv_goto (tgt := 144) dX7_init_169 (by decide) ?_
  refine wv_iload_n dX7_init_144 rfl ?_
  refine wv_aload_n dX7_init_145 rfl ?_
  refine wv_getR (r := 28) fX7_45 dX7_init_146 rfl (by decide +kernel) (by decide +kernel) ?_
  refine wv_alen (n := 3) dX7_init_149 (t := 4) (by decide) (by decide +kernel) ?_
  refine wv_icmp_ge (tgt := 172) dX7_init_150 (by decide) (fun h => absurd h (by decide +kernel)) (fun _ => ?_)
  refine wv_aload_n dX7_init_153 rfl ?_
  refine wv_getR (r := 28) fX7_45 dX7_init_154 rfl (by decide +kernel) (by decide +kernel) ?_
  refine wv_iload_n dX7_init_157 rfl ?_
  refine wv_new (ci := 0) (j := 45) (sh' := (SH.take 46)) (mc' := 9) (ms' := 189) (by decide) clX7_35 ib0 it0 dX7_init_158 (by decide +kernel) (by decide) (by decide +kernel) (hz _ (by decide) (by decide)) rfl rfl ?_
  replace hz := zz_mo (m := 46) hz (by decide)
  refine wv_dup dX7_init_161 rfl ?_
  refine wv_iE (j := 45) (as := []) (mc' := 4) (ms' := 90) (m2 := 5) (s2 := 99) (d' := 1) oX0_init rfl kX7_37 dX7_init_162 (by decide) rfl rfl rfl (Nat.le_of_ble_eq_true rfl) rfl (Nat.le_of_ble_eq_true rfl) (n_crowd 45 (by decide) (SH.take 46) (SH.take 47) (SH.take 48) (SH.take 49) (SH.take 50) (by decide +kernel) (by decide +kernel) (by decide +kernel) (by decide +kernel) (by decide +kernel) (by decide +kernel) (by decide +kernel) (by decide +kernel) (by decide +kernel) (by decide +kernel) (by decide +kernel) (by decide +kernel) (by decide +kernel) hz) ?_
  replace hz := zz_c (t := 45) hz
  refine wv_aast (k := 1) (n := 3) dX7_init_165 (by decide +kernel) (by decide +kernel) (by decide) (by decide) ?_
  replace hz := zz_R (j := 28) (k := 1) (x := 45 + 1) hz (by decide)
  refine wv_iinc (v := nI (1 + 1)) dX7_init_166 rfl (nI_1 1) (by decide) ?_
  refine wv_goto (tgt := 144) dX7_init_169 (by decide) ?_
  refine wv_iload_n dX7_init_144 rfl ?_
  refine wv_aload_n dX7_init_145 rfl ?_
  refine wv_getR (r := 28) fX7_45 dX7_init_146 rfl (by decide +kernel) (by decide +kernel) ?_
  refine wv_alen (n := 3) dX7_init_149 (t := 4) (by decide) (by decide +kernel) ?_
  refine wv_icmp_ge (tgt := 172) dX7_init_150 (by decide) (fun h => absurd h (by decide +kernel)) (fun _ => ?_)
  refine wv_aload_n dX7_init_153 rfl ?_
  refine wv_getR (r := 28) fX7_45 dX7_init_154 rfl (by decide +kernel) (by decide +kernel) ?_
  refine wv_iload_n dX7_init_157 rfl ?_
  refine wv_new (ci := 0) (j := 50) (sh' := (SH.take 51)) (mc' := 4) (ms' := 90) (by decide) clX7_35 ib0 it0 dX7_init_158 (by decide +kernel) (by decide) (by decide +kernel) (hz _ (by decide) (by decide)) rfl rfl ?_
  replace hz := zz_mo (m := 51) hz (by decide)
  refine wv_dup dX7_init_161 rfl ?_
  refine wv_iE (j := 50) (as := []) (mc' := 4) (ms' := 90) (m2 := 0) (s2 := 0) (d' := 1) oX0_init rfl kX7_37 dX7_init_162 (by decide) rfl rfl rfl (Nat.le_of_ble_eq_true rfl) rfl (Nat.le_of_ble_eq_true rfl) (n_crowd 50 (by decide) (SH.take 51) (SH.take 52) (SH.take 53) (SH.take 54) (SH.take 55) (by decide +kernel) (by decide +kernel) (by decide +kernel) (by decide +kernel) (by decide +kernel) (by decide +kernel) (by decide +kernel) (by decide +kernel) (by decide +kernel) (by decide +kernel) (by decide +kernel) (by decide +kernel) (by decide +kernel) hz) ?_
  replace hz := zz_c (t := 50) hz
  refine wv_aast (k := 2) (n := 3) dX7_init_165 (by decide +kernel) (by decide +kernel) (by decide) (by decide) ?_
  replace hz := zz_R (j := 28) (k := 2) (x := 50 + 1) hz (by decide)
  refine wv_iinc (v := nI (2 + 1)) dX7_init_166 rfl (nI_1 2) (by decide) ?_
  refine wv_goto (tgt := 144) dX7_init_169 (by decide) ?_
  refine wv_iload_n dX7_init_144 rfl ?_
  refine wv_aload_n dX7_init_145 rfl ?_
  refine wv_getR (r := 28) fX7_45 dX7_init_146 rfl (by decide +kernel) (by decide +kernel) ?_
  refine wv_alen (n := 3) dX7_init_149 (t := 4) (by decide) (by decide +kernel) ?_
  refine wv_icmp_ge (tgt := 172) dX7_init_150 (by decide) (fun _ => ?_) (fun h => absurd (by decide +kernel) h)
  refine wv_ret (x := ()) rfl dX7_init_172 ?_
  have eJ : ∀ b, b ≠ 3 → b ≠ 4 → b ≠ 5 → b ≠ 10 → b ≠ 11 → b ≠ 12 → J2 b = I b := fun b b1 b2 b3 b4 b5 b6 => (a26 b b4 b5 b6).trans (a16 b b1 b2 b3)
  refine ⟨rfl, rfl, rfl, zz_mo hz (by decide), ⟨_, _, _, _, rgV_fr a14 (fun a h1 h2 h3 => ?_) ?_⟩, ?_, fun k => ?_, ?_, ?_, ?_, ?_, ?_, fun j k hj => ?_, fun k => ?_, ?_, ?_, ?_⟩
  · show I7 J2 a = J1 a
    rw [I7_n (by omega) (by omega) (by omega) (by omega) (by omega) (by omega) (by omega), a26 a (by omega) (by omega) (by omega)]
  · exact a27 3 (by decide)
  · show I7 J2 4 3 = 2
    rw [I7_n (by omega) (by omega) (by omega) (by omega) (by omega) (by omega) (by omega), a26 4 (by omega) (by omega) (by omega)]
    exact a15
  · show I7 J2 1 k = 0
    rw [I7_n (by omega) (by omega) (by omega) (by omega) (by omega) (by omega) (by omega), eJ 1 (by omega) (by omega) (by omega) (by omega) (by omega) (by omega)]
    exact (h00 1 (by decide) (by decide) k).1
  · show I7 J2 17 9 = 0
    have e : I7 J2 17 9 = J2 17 9 := by simp [I7, cI, fI, wr_uI]
    rw [e, eJ 17 (by omega) (by omega) (by omega) (by omega) (by omega) (by omega)]
    exact (h00 17 (by decide) (by decide) 9).1
  · show I7 J2 17 10 = -1
    simp [I7, cI, fI, wr_uI]
  · show I7 J2 18 6 = 0
    have e : I7 J2 18 6 = J2 18 6 := by simp [I7, cI, fI, wr_uI]
    rw [e, eJ 18 (by omega) (by omega) (by omega) (by omega) (by omega) (by omega)]
    exact (h00 18 (by decide) (by decide) 6).1
  · show I7 J2 18 7 = 0
    have e : I7 J2 18 7 = J2 18 7 := by simp [I7, cI, fI, wr_uI]
    rw [e, eJ 18 (by omega) (by omega) (by omega) (by omega) (by omega) (by omega)]
    exact (h00 18 (by decide) (by decide) 7).1
  · show I7 J2 18 8 = 1
    simp [I7, cI, fI, wr_uI]
  · show I7 J2 j k = 0
    rw [I7_n (by omega) (by omega) (by omega) (by omega) (by omega) (by omega) (by omega), eJ j (by omega) (by omega) (by omega) (by omega) (by omega) (by omega)]
    exact (h00 j (by omega) (by omega) k).1
  · rw [a27 18 (by decide), a17 18 (by decide)]
    rfl
  · show I7 J2 30 6 = 0
    have e : I7 J2 30 6 = J2 30 6 := by simp [I7, cI, fI, wr_uI]
    rw [e, eJ 30 (by omega) (by omega) (by omega) (by omega) (by omega) (by omega)]
    exact (h00 30 (by decide) (by decide) 6).1
  · show I7 J2 30 7 = 0
    have e : I7 J2 30 7 = J2 30 7 := by simp [I7, cI, fI, wr_uI]
    rw [e, eJ 30 (by omega) (by omega) (by omega) (by omega) (by omega) (by omega)]
    exact (h00 30 (by decide) (by decide) 7).1
  · show I7 J2 1000300 = I 1000300
    rw [I7_n (by omega) (by omega) (by omega) (by omega) (by omega) (by omega) (by omega), eJ 1000300 (by omega) (by omega) (by omega) (by omega) (by omega) (by omega)]
def crL : List (Nat × Nat × Nat) := [(0, 0, 1), (0, 3, 17), (0, 4, 18), (0, 5, 23), (0, 6, 28), (0, 7, 29), (0, 8, 30), (0, 9, 37), (0, 10, 38), (0, 11, 39), (1, 0, 2), (3, 0, 4), (3, 1, 7), (3, 2, 8), (3, 3, 9), (4, 0, 5), (4, 1, 6), (10, 0, 11), (10, 1, 14), (10, 2, 15), (10, 3, 16), (11, 0, 12), (11, 1, 13), (17, 0, 1), (18, 0, 19), (18, 1, 20), (18, 2, 21), (18, 3, 22), (23, 0, 24), (23, 1, 25), (23, 2, 26), (23, 3, 27), (28, 0, 40), (28, 1, 45), (28, 2, 50), (30, 0, 31), (30, 1, 32), (30, 2, 33), (30, 3, 34), (30, 4, 35), (30, 5, 36), (40, 0, 41), (40, 1, 42), (40, 2, 43), (40, 3, 44), (45, 0, 46), (45, 1, 47), (45, 2, 48), (45, 3, 49), (50, 0, 51), (50, 1, 52), (50, 2, 53), (50, 3, 54), (55, 0, 56), (55, 10, 57), (55, 11, 58), (55, 12, 59), (55, 13, 60), (55, 14, 61), (55, 15, 62), (55, 16, 63), (55, 17, 64), (55, 18, 65), (55, 19, 66), (55, 20, 67), (55, 21, 68), (55, 37, 69), (55, 38, 70), (55, 39, 71), (55, 40, 72), (55, 41, 73), (55, 42, 74), (55, 49, 75), (55, 50, 76), (55, 51, 77), (55, 52, 78), (55, 53, 79), (55, 54, 80), (55, 55, 81), (55, 56, 82), (55, 62, 83), (55, 63, 84), (55, 64, 85), (55, 65, 86), (55, 66, 87), (55, 67, 88), (55, 68, 89), (55, 72, 90), (55, 73, 91), (55, 74, 92), (55, 75, 93), (55, 76, 94), (55, 77, 95), (55, 78, 96), (55, 79, 97), (55, 80, 98), (55, 81, 99)]
theorem cr_all {P : Nat → Nat → Nat → Prop} (h : ∀ q ∈ crL, P q.1 q.2.1 q.2.2) : ∀ j k r, wr_cr j k = some r → P j k r := by
  intro j k r hr
  unfold wr_cr at hr
  split at hr <;> first | (cases hr; exact h (_, _, _) (by decide)) | cases hr
def R8 : wr_TR := wr_uR (wr_uR (wr_uR (wr_uR (wr_uR (wr_uR (wr_uR (wr_uR (wr_uR (wr_uR (wr_uR (wr_uR (wr_uR (wr_uR (wr_uR (wr_uR (wr_uR (wr_uR (wr_uR (wr_uR (wr_uR (wr_uR (wr_uR (wr_uR (wr_uR (wr_uR (wr_uR (wr_uR (wr_uR (wr_uR (wr_uR (wr_uR (wr_uR (wr_uR (wr_uR (wr_uR (wr_uR (wr_uR (wr_uR (wr_uR (wr_uR (wr_uR (wr_uR (wr_uR (R7) 55 0 (56 + 1)) 55 10 (57 + 1)) 55 11 (58 + 1)) 55 12 (59 + 1)) 55 13 (60 + 1)) 55 14 (61 + 1)) 55 15 (62 + 1)) 55 16 (63 + 1)) 55 17 (64 + 1)) 55 18 (65 + 1)) 55 19 (66 + 1)) 55 20 (67 + 1)) 55 21 (68 + 1)) 55 37 (69 + 1)) 55 38 (70 + 1)) 55 39 (71 + 1)) 55 40 (72 + 1)) 55 41 (73 + 1)) 55 42 (74 + 1)) 55 49 (75 + 1)) 55 50 (76 + 1)) 55 51 (77 + 1)) 55 52 (78 + 1)) 55 53 (79 + 1)) 55 54 (80 + 1)) 55 55 (81 + 1)) 55 56 (82 + 1)) 55 62 (83 + 1)) 55 63 (84 + 1)) 55 64 (85 + 1)) 55 65 (86 + 1)) 55 66 (87 + 1)) 55 67 (88 + 1)) 55 68 (89 + 1)) 55 72 (90 + 1)) 55 73 (91 + 1)) 55 74 (92 + 1)) 55 75 (93 + 1)) 55 76 (94 + 1)) 55 77 (95 + 1)) 55 78 (96 + 1)) 55 79 (97 + 1)) 55 80 (98 + 1)) 55 81 (99 + 1)
set_option maxHeartbeats 4000000 in
set_option maxRecDepth 100000 in
theorem R8_rc : wr_RC R8 := cr_all (P := fun j k r => R8 j k = r + 1) (by decide +kernel)
def I8 (I : wr_TI) : wr_TI := plI (wr_uI (wr_uI (wr_uI I 55 3 (-1)) 55 59 1) 55 28 24)
def Q8 (I : wr_TI) (L : wr_TL) : wr_TQ := fun v s' I' L' R' => v = none ∧ s' = SH ∧ L' = L ∧ R' = R8 ∧ (∀ b, b < 55 → I' b = I b) ∧ I' 1000300 = I 1000300 ∧ ∀ (c a b d : Nat → Int32) (B : Nat → FS), zM I' L' (0, fun _ => 0) (0, -1) (gE c a b d) 2 (S0 (gE c a b d), (fun _ => 0), 1) (0, (fun _ => 0), (fun _ => 0), (fun _ => 0), (fun _ => 0)) 0 (fun _ => false) B
set_option maxHeartbeats 4000000 in
set_option maxRecDepth 100000 in
theorem n_model {l : Launch} {I : wr_TI} {L : wr_TL} (h55 : ∀ k, I 55 k = 0) (hz : zz 56 I L R7) : wr_V l 1 mX8_init 0 (wr_ent [.ref 55]) [] (SH.take 56) I L R7 44 3927 (Q8 I L) := by
  have h00 := hz
  show wr_V l 1 mX8_init 0 [some (.ref 55)] [] (SH.take 56) I L R7 44 3927 _
  refine wv_aload_n dX8_init_0 rfl ?_
  refine wv_oinit oLX8 oJi oJc dX8_init_1 (by decide) (Nat.le_of_ble_eq_true rfl) ?_
  refine wv_aload_n dX8_init_4 rfl ?_
  refine wv_sipush (v := 800) dX8_init_5 (by decide) ?_
  refine wv_newa (t := 0) (n := 800) (j := 56) (sh' := (SH.take 57)) (mc' := 43) (ms' := 3127) (by decide) rfl aI dX8_init_8 (by decide +kernel) (by decide) (by decide +kernel) (by decide) (by decide +kernel) (hz _ (by decide) (by decide)) rfl rfl ?_
  refine wv_putFR (ci := 8) (k := 0) (by decide) (by decide) gX8_7 dX8_init_10 rfl rfl rfl rfl (by decide +kernel) ?_
  replace hz := zz_R (j := 55) (k := 0) (x := 56 + 1) hz (by decide)
  refine wv_aload_n dX8_init_13 rfl ?_
  refine wv_iconst (v := (-1)) dX8_init_14 (by decide) ?_
  refine wv_putI fX8_13 dX8_init_15 rfl rfl rfl rfl (by decide +kernel) ?_
  replace hz := zz_I (j := 55) (k := 3) (x := (-1)) hz (by decide)
  refine wv_aload_n dX8_init_18 rfl ?_
  refine wv_bipush (v := 40) dX8_init_19 (by decide) ?_
  refine wv_newa (t := 2) (n := 40) (j := 57) (sh' := (SH.take 58)) (mc' := 42) (ms' := 3087) (by decide) rfl aZ dX8_init_21 (by decide +kernel) (by decide) (by decide +kernel) (by decide) (by decide +kernel) (hz _ (by decide) (by decide)) rfl rfl ?_
  refine wv_putFR (ci := 8) (k := 10) (by decide) (by decide) gX8_17 dX8_init_23 rfl rfl rfl rfl (by decide +kernel) ?_
  replace hz := zz_R (j := 55) (k := 10) (x := 57 + 1) hz (by decide)
  refine wv_aload_n dX8_init_26 rfl ?_
  refine wv_bipush (v := 40) dX8_init_27 (by decide) ?_
  refine wv_newa (t := 2) (n := 40) (j := 58) (sh' := (SH.take 59)) (mc' := 41) (ms' := 3047) (by decide) rfl aZ dX8_init_29 (by decide +kernel) (by decide) (by decide +kernel) (by decide) (by decide +kernel) (hz _ (by decide) (by decide)) rfl rfl ?_
  refine wv_putFR (ci := 8) (k := 11) (by decide) (by decide) gX8_21 dX8_init_31 rfl rfl rfl rfl (by decide +kernel) ?_
  replace hz := zz_R (j := 55) (k := 11) (x := 58 + 1) hz (by decide)
  refine wv_aload_n dX8_init_34 rfl ?_
  refine wv_bipush (v := 40) dX8_init_35 (by decide) ?_
  refine wv_newa (t := 2) (n := 40) (j := 59) (sh' := (SH.take 60)) (mc' := 40) (ms' := 3007) (by decide) rfl aZ dX8_init_37 (by decide +kernel) (by decide) (by decide +kernel) (by decide) (by decide +kernel) (hz _ (by decide) (by decide)) rfl rfl ?_
  refine wv_putFR (ci := 8) (k := 12) (by decide) (by decide) gX8_24 dX8_init_39 rfl rfl rfl rfl (by decide +kernel) ?_
  replace hz := zz_R (j := 55) (k := 12) (x := 59 + 1) hz (by decide)
  refine wv_aload_n dX8_init_42 rfl ?_
  refine wv_bipush (v := 40) dX8_init_43 (by decide) ?_
  refine wv_newa (t := 2) (n := 40) (j := 60) (sh' := (SH.take 61)) (mc' := 39) (ms' := 2967) (by decide) rfl aZ dX8_init_45 (by decide +kernel) (by decide) (by decide +kernel) (by decide) (by decide +kernel) (hz _ (by decide) (by decide)) rfl rfl ?_
  refine wv_putFR (ci := 8) (k := 13) (by decide) (by decide) gX8_27 dX8_init_47 rfl rfl rfl rfl (by decide +kernel) ?_
  replace hz := zz_R (j := 55) (k := 13) (x := 60 + 1) hz (by decide)
  refine wv_aload_n dX8_init_50 rfl ?_
  refine wv_bipush (v := 40) dX8_init_51 (by decide) ?_
  refine wv_newa (t := 2) (n := 40) (j := 61) (sh' := (SH.take 62)) (mc' := 38) (ms' := 2927) (by decide) rfl aZ dX8_init_53 (by decide +kernel) (by decide) (by decide +kernel) (by decide) (by decide +kernel) (hz _ (by decide) (by decide)) rfl rfl ?_
  refine wv_putFR (ci := 8) (k := 14) (by decide) (by decide) gX8_30 dX8_init_55 rfl rfl rfl rfl (by decide +kernel) ?_
  replace hz := zz_R (j := 55) (k := 14) (x := 61 + 1) hz (by decide)
  refine wv_aload_n dX8_init_58 rfl ?_
  refine wv_bipush (v := 40) dX8_init_59 (by decide) ?_
  refine wv_newa (t := 2) (n := 40) (j := 62) (sh' := (SH.take 63)) (mc' := 37) (ms' := 2887) (by decide) rfl aZ dX8_init_61 (by decide +kernel) (by decide) (by decide +kernel) (by decide) (by decide +kernel) (hz _ (by decide) (by decide)) rfl rfl ?_
  refine wv_putFR (ci := 8) (k := 15) (by decide) (by decide) gX8_33 dX8_init_63 rfl rfl rfl rfl (by decide +kernel) ?_
  replace hz := zz_R (j := 55) (k := 15) (x := 62 + 1) hz (by decide)
  refine wv_aload_n dX8_init_66 rfl ?_
  refine wv_bipush (v := 6) dX8_init_67 (by decide) ?_
  refine wv_newa (t := 0) (n := 6) (j := 63) (sh' := (SH.take 64)) (mc' := 36) (ms' := 2881) (by decide) rfl aI dX8_init_69 (by decide +kernel) (by decide) (by decide +kernel) (by decide) (by decide +kernel) (hz _ (by decide) (by decide)) rfl rfl ?_
  refine wv_putFR (ci := 8) (k := 16) (by decide) (by decide) gX8_36 dX8_init_71 rfl rfl rfl rfl (by decide +kernel) ?_
  replace hz := zz_R (j := 55) (k := 16) (x := 63 + 1) hz (by decide)
  refine wv_aload_n dX8_init_74 rfl ?_
  refine wv_bipush (v := 6) dX8_init_75 (by decide) ?_
  refine wv_newa (t := 0) (n := 6) (j := 64) (sh' := (SH.take 65)) (mc' := 35) (ms' := 2875) (by decide) rfl aI dX8_init_77 (by decide +kernel) (by decide) (by decide +kernel) (by decide) (by decide +kernel) (hz _ (by decide) (by decide)) rfl rfl ?_
  refine wv_putFR (ci := 8) (k := 17) (by decide) (by decide) gX8_39 dX8_init_79 rfl rfl rfl rfl (by decide +kernel) ?_
  replace hz := zz_R (j := 55) (k := 17) (x := 64 + 1) hz (by decide)
  refine wv_aload_n dX8_init_82 rfl ?_
  refine wv_bipush (v := 6) dX8_init_83 (by decide) ?_
  refine wv_newa (t := 0) (n := 6) (j := 65) (sh' := (SH.take 66)) (mc' := 34) (ms' := 2869) (by decide) rfl aI dX8_init_85 (by decide +kernel) (by decide) (by decide +kernel) (by decide) (by decide +kernel) (hz _ (by decide) (by decide)) rfl rfl ?_
  refine wv_putFR (ci := 8) (k := 18) (by decide) (by decide) gX8_42 dX8_init_87 rfl rfl rfl rfl (by decide +kernel) ?_
  replace hz := zz_R (j := 55) (k := 18) (x := 65 + 1) hz (by decide)
  refine wv_aload_n dX8_init_90 rfl ?_
  refine wv_bipush (v := 6) dX8_init_91 (by decide) ?_
  refine wv_newa (t := 0) (n := 6) (j := 66) (sh' := (SH.take 67)) (mc' := 33) (ms' := 2863) (by decide) rfl aI dX8_init_93 (by decide +kernel) (by decide) (by decide +kernel) (by decide) (by decide +kernel) (hz _ (by decide) (by decide)) rfl rfl ?_
  refine wv_putFR (ci := 8) (k := 19) (by decide) (by decide) gX8_45 dX8_init_95 rfl rfl rfl rfl (by decide +kernel) ?_
  replace hz := zz_R (j := 55) (k := 19) (x := 66 + 1) hz (by decide)
  refine wv_aload_n dX8_init_98 rfl ?_
  refine wv_bipush (v := 6) dX8_init_99 (by decide) ?_
  refine wv_newa (t := 0) (n := 6) (j := 67) (sh' := (SH.take 68)) (mc' := 32) (ms' := 2857) (by decide) rfl aI dX8_init_101 (by decide +kernel) (by decide) (by decide +kernel) (by decide) (by decide +kernel) (hz _ (by decide) (by decide)) rfl rfl ?_
  refine wv_putFR (ci := 8) (k := 20) (by decide) (by decide) gX8_48 dX8_init_103 rfl rfl rfl rfl (by decide +kernel) ?_
  replace hz := zz_R (j := 55) (k := 20) (x := 67 + 1) hz (by decide)
  refine wv_aload_n dX8_init_106 rfl ?_
  refine wv_bipush (v := 6) dX8_init_107 (by decide) ?_
  refine wv_newa (t := 0) (n := 6) (j := 68) (sh' := (SH.take 69)) (mc' := 31) (ms' := 2851) (by decide) rfl aI dX8_init_109 (by decide +kernel) (by decide) (by decide +kernel) (by decide) (by decide +kernel) (hz _ (by decide) (by decide)) rfl rfl ?_
  refine wv_putFR (ci := 8) (k := 21) (by decide) (by decide) gX8_51 dX8_init_111 rfl rfl rfl rfl (by decide +kernel) ?_
  replace hz := zz_R (j := 55) (k := 21) (x := 68 + 1) hz (by decide)
  refine wv_aload_n dX8_init_114 rfl ?_
  refine wv_sipush (v := 300) dX8_init_115 (by decide) ?_
  refine wv_newa (t := 0) (n := 300) (j := 69) (sh' := (SH.take 70)) (mc' := 30) (ms' := 2551) (by decide) rfl aI dX8_init_118 (by decide +kernel) (by decide) (by decide +kernel) (by decide) (by decide +kernel) (hz _ (by decide) (by decide)) rfl rfl ?_
  refine wv_putFR (ci := 8) (k := 37) (by decide) (by decide) gX8_54 dX8_init_120 rfl rfl rfl rfl (by decide +kernel) ?_
  replace hz := zz_R (j := 55) (k := 37) (x := 69 + 1) hz (by decide)
  refine wv_aload_n dX8_init_123 rfl ?_
  refine wv_sipush (v := 300) dX8_init_124 (by decide) ?_
  refine wv_newa (t := 0) (n := 300) (j := 70) (sh' := (SH.take 71)) (mc' := 29) (ms' := 2251) (by decide) rfl aI dX8_init_127 (by decide +kernel) (by decide) (by decide +kernel) (by decide) (by decide +kernel) (hz _ (by decide) (by decide)) rfl rfl ?_
  refine wv_putFR (ci := 8) (k := 38) (by decide) (by decide) gX8_57 dX8_init_129 rfl rfl rfl rfl (by decide +kernel) ?_
  replace hz := zz_R (j := 55) (k := 38) (x := 70 + 1) hz (by decide)
  refine wv_aload_n dX8_init_132 rfl ?_
  refine wv_sipush (v := 300) dX8_init_133 (by decide) ?_
  refine wv_newa (t := 0) (n := 300) (j := 71) (sh' := (SH.take 72)) (mc' := 28) (ms' := 1951) (by decide) rfl aI dX8_init_136 (by decide +kernel) (by decide) (by decide +kernel) (by decide) (by decide +kernel) (hz _ (by decide) (by decide)) rfl rfl ?_
  refine wv_putFR (ci := 8) (k := 39) (by decide) (by decide) gX8_60 dX8_init_138 rfl rfl rfl rfl (by decide +kernel) ?_
  replace hz := zz_R (j := 55) (k := 39) (x := 71 + 1) hz (by decide)
  refine wv_aload_n dX8_init_141 rfl ?_
  refine wv_sipush (v := 300) dX8_init_142 (by decide) ?_
  refine wv_newa (t := 0) (n := 300) (j := 72) (sh' := (SH.take 73)) (mc' := 27) (ms' := 1651) (by decide) rfl aI dX8_init_145 (by decide +kernel) (by decide) (by decide +kernel) (by decide) (by decide +kernel) (hz _ (by decide) (by decide)) rfl rfl ?_
  refine wv_putFR (ci := 8) (k := 40) (by decide) (by decide) gX8_63 dX8_init_147 rfl rfl rfl rfl (by decide +kernel) ?_
  replace hz := zz_R (j := 55) (k := 40) (x := 72 + 1) hz (by decide)
  refine wv_aload_n dX8_init_150 rfl ?_
  refine wv_sipush (v := 300) dX8_init_151 (by decide) ?_
  refine wv_newa (t := 0) (n := 300) (j := 73) (sh' := (SH.take 74)) (mc' := 26) (ms' := 1351) (by decide) rfl aI dX8_init_154 (by decide +kernel) (by decide) (by decide +kernel) (by decide) (by decide +kernel) (hz _ (by decide) (by decide)) rfl rfl ?_
  refine wv_putFR (ci := 8) (k := 41) (by decide) (by decide) gX8_66 dX8_init_156 rfl rfl rfl rfl (by decide +kernel) ?_
  replace hz := zz_R (j := 55) (k := 41) (x := 73 + 1) hz (by decide)
  refine wv_aload_n dX8_init_159 rfl ?_
  refine wv_bipush (v := 40) dX8_init_160 (by decide) ?_
  refine wv_newa (t := 0) (n := 40) (j := 74) (sh' := (SH.take 75)) (mc' := 25) (ms' := 1311) (by decide) rfl aI dX8_init_162 (by decide +kernel) (by decide) (by decide +kernel) (by decide) (by decide +kernel) (hz _ (by decide) (by decide)) rfl rfl ?_
  refine wv_putFR (ci := 8) (k := 42) (by decide) (by decide) gX8_69 dX8_init_164 rfl rfl rfl rfl (by decide +kernel) ?_
  replace hz := zz_R (j := 55) (k := 42) (x := 74 + 1) hz (by decide)
  refine wv_aload_n dX8_init_167 rfl ?_
  refine wv_bipush (v := 40) dX8_init_168 (by decide) ?_
  refine wv_newa (t := 0) (n := 40) (j := 75) (sh' := (SH.take 76)) (mc' := 24) (ms' := 1271) (by decide) rfl aI dX8_init_170 (by decide +kernel) (by decide) (by decide +kernel) (by decide) (by decide +kernel) (hz _ (by decide) (by decide)) rfl rfl ?_
  refine wv_putFR (ci := 8) (k := 49) (by decide) (by decide) gX8_72 dX8_init_172 rfl rfl rfl rfl (by decide +kernel) ?_
  replace hz := zz_R (j := 55) (k := 49) (x := 75 + 1) hz (by decide)
  refine wv_aload_n dX8_init_175 rfl ?_
  refine wv_bipush (v := 40) dX8_init_176 (by decide) ?_
  refine wv_newa (t := 0) (n := 40) (j := 76) (sh' := (SH.take 77)) (mc' := 23) (ms' := 1231) (by decide) rfl aI dX8_init_178 (by decide +kernel) (by decide) (by decide +kernel) (by decide) (by decide +kernel) (hz _ (by decide) (by decide)) rfl rfl ?_
  refine wv_putFR (ci := 8) (k := 50) (by decide) (by decide) gX8_75 dX8_init_180 rfl rfl rfl rfl (by decide +kernel) ?_
  replace hz := zz_R (j := 55) (k := 50) (x := 76 + 1) hz (by decide)
  refine wv_aload_n dX8_init_183 rfl ?_
  refine wv_bipush (v := 40) dX8_init_184 (by decide) ?_
  refine wv_newa (t := 0) (n := 40) (j := 77) (sh' := (SH.take 78)) (mc' := 22) (ms' := 1191) (by decide) rfl aI dX8_init_186 (by decide +kernel) (by decide) (by decide +kernel) (by decide) (by decide +kernel) (hz _ (by decide) (by decide)) rfl rfl ?_
  refine wv_putFR (ci := 8) (k := 51) (by decide) (by decide) gX8_78 dX8_init_188 rfl rfl rfl rfl (by decide +kernel) ?_
  replace hz := zz_R (j := 55) (k := 51) (x := 77 + 1) hz (by decide)
  refine wv_aload_n dX8_init_191 rfl ?_
  refine wv_bipush (v := 40) dX8_init_192 (by decide) ?_
  refine wv_newa (t := 0) (n := 40) (j := 78) (sh' := (SH.take 79)) (mc' := 21) (ms' := 1151) (by decide) rfl aI dX8_init_194 (by decide +kernel) (by decide) (by decide +kernel) (by decide) (by decide +kernel) (hz _ (by decide) (by decide)) rfl rfl ?_
  refine wv_putFR (ci := 8) (k := 52) (by decide) (by decide) gX8_81 dX8_init_196 rfl rfl rfl rfl (by decide +kernel) ?_
  replace hz := zz_R (j := 55) (k := 52) (x := 78 + 1) hz (by decide)
  refine wv_aload_n dX8_init_199 rfl ?_
  refine wv_bipush (v := 40) dX8_init_200 (by decide) ?_
  refine wv_newa (t := 0) (n := 40) (j := 79) (sh' := (SH.take 80)) (mc' := 20) (ms' := 1111) (by decide) rfl aI dX8_init_202 (by decide +kernel) (by decide) (by decide +kernel) (by decide) (by decide +kernel) (hz _ (by decide) (by decide)) rfl rfl ?_
  refine wv_putFR (ci := 8) (k := 53) (by decide) (by decide) gX8_84 dX8_init_204 rfl rfl rfl rfl (by decide +kernel) ?_
  replace hz := zz_R (j := 55) (k := 53) (x := 79 + 1) hz (by decide)
  refine wv_aload_n dX8_init_207 rfl ?_
  refine wv_iconst (v := 3) dX8_init_208 (by decide) ?_
  refine wv_newa (t := 0) (n := 3) (j := 80) (sh' := (SH.take 81)) (mc' := 19) (ms' := 1108) (by decide) rfl aI dX8_init_209 (by decide +kernel) (by decide) (by decide +kernel) (by decide) (by decide +kernel) (hz _ (by decide) (by decide)) rfl rfl ?_
  refine wv_putFR (ci := 8) (k := 54) (by decide) (by decide) gX8_87 dX8_init_211 rfl rfl rfl rfl (by decide +kernel) ?_
  replace hz := zz_R (j := 55) (k := 54) (x := 80 + 1) hz (by decide)
  refine wv_aload_n dX8_init_214 rfl ?_
  refine wv_iconst (v := 3) dX8_init_215 (by decide) ?_
  refine wv_newa (t := 0) (n := 3) (j := 81) (sh' := (SH.take 82)) (mc' := 18) (ms' := 1105) (by decide) rfl aI dX8_init_216 (by decide +kernel) (by decide) (by decide +kernel) (by decide) (by decide +kernel) (hz _ (by decide) (by decide)) rfl rfl ?_
  refine wv_putFR (ci := 8) (k := 55) (by decide) (by decide) gX8_90 dX8_init_218 rfl rfl rfl rfl (by decide +kernel) ?_
  replace hz := zz_R (j := 55) (k := 55) (x := 81 + 1) hz (by decide)
  refine wv_aload_n dX8_init_221 rfl ?_
  refine wv_bipush (v := 40) dX8_init_222 (by decide) ?_
  refine wv_newa (t := 2) (n := 40) (j := 82) (sh' := (SH.take 83)) (mc' := 17) (ms' := 1065) (by decide) rfl aZ dX8_init_224 (by decide +kernel) (by decide) (by decide +kernel) (by decide) (by decide +kernel) (hz _ (by decide) (by decide)) rfl rfl ?_
  refine wv_putFR (ci := 8) (k := 56) (by decide) (by decide) gX8_93 dX8_init_226 rfl rfl rfl rfl (by decide +kernel) ?_
  replace hz := zz_R (j := 55) (k := 56) (x := 82 + 1) hz (by decide)
  refine wv_aload_n dX8_init_229 rfl ?_
  refine wv_iconst (v := 1) dX8_init_230 (by decide) ?_
  refine wv_putI fX8_96 dX8_init_231 rfl rfl rfl rfl (by decide +kernel) ?_
  replace hz := zz_I (j := 55) (k := 59) (x := 1) hz (by decide)
  refine wv_aload_n dX8_init_234 rfl ?_
  refine wv_bipush (v := 60) dX8_init_235 (by decide) ?_
  refine wv_newa (t := 0) (n := 60) (j := 83) (sh' := (SH.take 84)) (mc' := 16) (ms' := 1005) (by decide) rfl aI dX8_init_237 (by decide +kernel) (by decide) (by decide +kernel) (by decide) (by decide +kernel) (hz _ (by decide) (by decide)) rfl rfl ?_
  refine wv_putFR (ci := 8) (k := 62) (by decide) (by decide) gX8_99 dX8_init_239 rfl rfl rfl rfl (by decide +kernel) ?_
  replace hz := zz_R (j := 55) (k := 62) (x := 83 + 1) hz (by decide)
  refine wv_aload_n dX8_init_242 rfl ?_
  refine wv_bipush (v := 60) dX8_init_243 (by decide) ?_
  refine wv_newa (t := 0) (n := 60) (j := 84) (sh' := (SH.take 85)) (mc' := 15) (ms' := 945) (by decide) rfl aI dX8_init_245 (by decide +kernel) (by decide) (by decide +kernel) (by decide) (by decide +kernel) (hz _ (by decide) (by decide)) rfl rfl ?_
  refine wv_putFR (ci := 8) (k := 63) (by decide) (by decide) gX8_102 dX8_init_247 rfl rfl rfl rfl (by decide +kernel) ?_
  replace hz := zz_R (j := 55) (k := 63) (x := 84 + 1) hz (by decide)
  refine wv_aload_n dX8_init_250 rfl ?_
  refine wv_bipush (v := 60) dX8_init_251 (by decide) ?_
  refine wv_newa (t := 0) (n := 60) (j := 85) (sh' := (SH.take 86)) (mc' := 14) (ms' := 885) (by decide) rfl aI dX8_init_253 (by decide +kernel) (by decide) (by decide +kernel) (by decide) (by decide +kernel) (hz _ (by decide) (by decide)) rfl rfl ?_
  refine wv_putFR (ci := 8) (k := 64) (by decide) (by decide) gX8_105 dX8_init_255 rfl rfl rfl rfl (by decide +kernel) ?_
  replace hz := zz_R (j := 55) (k := 64) (x := 85 + 1) hz (by decide)
  refine wv_aload_n dX8_init_258 rfl ?_
  refine wv_bipush (v := 60) dX8_init_259 (by decide) ?_
  refine wv_newa (t := 3) (n := 60) (j := 86) (sh' := (SH.take 87)) (mc' := 13) (ms' := 825) (by decide) rfl aJ dX8_init_261 (by decide +kernel) (by decide) (by decide +kernel) (by decide) (by decide +kernel) (hz _ (by decide) (by decide)) rfl rfl ?_
  refine wv_putFR (ci := 8) (k := 65) (by decide) (by decide) gX8_108 dX8_init_263 rfl rfl rfl rfl (by decide +kernel) ?_
  replace hz := zz_R (j := 55) (k := 65) (x := 86 + 1) hz (by decide)
  refine wv_aload_n dX8_init_266 rfl ?_
  refine wv_bipush (v := 40) dX8_init_267 (by decide) ?_
  refine wv_newa (t := 3) (n := 40) (j := 87) (sh' := (SH.take 88)) (mc' := 12) (ms' := 785) (by decide) rfl aJ dX8_init_269 (by decide +kernel) (by decide) (by decide +kernel) (by decide) (by decide +kernel) (hz _ (by decide) (by decide)) rfl rfl ?_
  refine wv_putFR (ci := 8) (k := 66) (by decide) (by decide) gX8_112 dX8_init_271 rfl rfl rfl rfl (by decide +kernel) ?_
  replace hz := zz_R (j := 55) (k := 66) (x := 87 + 1) hz (by decide)
  refine wv_aload_n dX8_init_274 rfl ?_
  refine wv_bipush (v := 40) dX8_init_275 (by decide) ?_
  refine wv_newa (t := 2) (n := 40) (j := 88) (sh' := (SH.take 89)) (mc' := 11) (ms' := 745) (by decide) rfl aZ dX8_init_277 (by decide +kernel) (by decide) (by decide +kernel) (by decide) (by decide +kernel) (hz _ (by decide) (by decide)) rfl rfl ?_
  refine wv_putFR (ci := 8) (k := 67) (by decide) (by decide) gX8_115 dX8_init_279 rfl rfl rfl rfl (by decide +kernel) ?_
  replace hz := zz_R (j := 55) (k := 67) (x := 88 + 1) hz (by decide)
  refine wv_aload_n dX8_init_282 rfl ?_
  refine wv_sipush (v := 324) dX8_init_283 (by decide) ?_
  refine wv_newa (t := 2) (n := 324) (j := 89) (sh' := (SH.take 90)) (mc' := 10) (ms' := 421) (by decide) rfl aZ dX8_init_286 (by decide +kernel) (by decide) (by decide +kernel) (by decide) (by decide +kernel) (hz _ (by decide) (by decide)) rfl rfl ?_
  refine wv_putFR (ci := 8) (k := 68) (by decide) (by decide) gX8_118 dX8_init_288 rfl rfl rfl rfl (by decide +kernel) ?_
  replace hz := zz_R (j := 55) (k := 68) (x := 89 + 1) hz (by decide)
  refine wv_aload_n dX8_init_291 rfl ?_
  refine wv_bipush (v := 80) dX8_init_292 (by decide) ?_
  refine wv_newa (t := 0) (n := 80) (j := 90) (sh' := (SH.take 91)) (mc' := 9) (ms' := 341) (by decide) rfl aI dX8_init_294 (by decide +kernel) (by decide) (by decide +kernel) (by decide) (by decide +kernel) (hz _ (by decide) (by decide)) rfl rfl ?_
  refine wv_putFR (ci := 8) (k := 72) (by decide) (by decide) gX8_121 dX8_init_296 rfl rfl rfl rfl (by decide +kernel) ?_
  replace hz := zz_R (j := 55) (k := 72) (x := 90 + 1) hz (by decide)
  refine wv_aload_n dX8_init_299 rfl ?_
  refine wv_bipush (v := 40) dX8_init_300 (by decide) ?_
  refine wv_newa (t := 0) (n := 40) (j := 91) (sh' := (SH.take 92)) (mc' := 8) (ms' := 301) (by decide) rfl aI dX8_init_302 (by decide +kernel) (by decide) (by decide +kernel) (by decide) (by decide +kernel) (hz _ (by decide) (by decide)) rfl rfl ?_
  refine wv_putFR (ci := 8) (k := 73) (by decide) (by decide) gX8_124 dX8_init_304 rfl rfl rfl rfl (by decide +kernel) ?_
  replace hz := zz_R (j := 55) (k := 73) (x := 91 + 1) hz (by decide)
  refine wv_aload_n dX8_init_307 rfl ?_
  refine wv_bipush (v := 40) dX8_init_308 (by decide) ?_
  refine wv_newa (t := 0) (n := 40) (j := 92) (sh' := (SH.take 93)) (mc' := 7) (ms' := 261) (by decide) rfl aI dX8_init_310 (by decide +kernel) (by decide) (by decide +kernel) (by decide) (by decide +kernel) (hz _ (by decide) (by decide)) rfl rfl ?_
  refine wv_putFR (ci := 8) (k := 74) (by decide) (by decide) gX8_127 dX8_init_312 rfl rfl rfl rfl (by decide +kernel) ?_
  replace hz := zz_R (j := 55) (k := 74) (x := 92 + 1) hz (by decide)
  refine wv_aload_n dX8_init_315 rfl ?_
  refine wv_iconst (v := 3) dX8_init_316 (by decide) ?_
  refine wv_newa (t := 2) (n := 3) (j := 93) (sh' := (SH.take 94)) (mc' := 6) (ms' := 258) (by decide) rfl aZ dX8_init_317 (by decide +kernel) (by decide) (by decide +kernel) (by decide) (by decide +kernel) (hz _ (by decide) (by decide)) rfl rfl ?_
  refine wv_putFR (ci := 8) (k := 75) (by decide) (by decide) gX8_130 dX8_init_319 rfl rfl rfl rfl (by decide +kernel) ?_
  replace hz := zz_R (j := 55) (k := 75) (x := 93 + 1) hz (by decide)
  refine wv_aload_n dX8_init_322 rfl ?_
  refine wv_bipush (v := 120) dX8_init_323 (by decide) ?_
  refine wv_newa (t := 0) (n := 120) (j := 94) (sh' := (SH.take 95)) (mc' := 5) (ms' := 138) (by decide) rfl aI dX8_init_325 (by decide +kernel) (by decide) (by decide +kernel) (by decide) (by decide +kernel) (hz _ (by decide) (by decide)) rfl rfl ?_
  refine wv_putFR (ci := 8) (k := 76) (by decide) (by decide) gX8_133 dX8_init_327 rfl rfl rfl rfl (by decide +kernel) ?_
  replace hz := zz_R (j := 55) (k := 76) (x := 94 + 1) hz (by decide)
  refine wv_aload_n dX8_init_330 rfl ?_
  refine wv_bipush (v := 120) dX8_init_331 (by decide) ?_
  refine wv_newa (t := 0) (n := 120) (j := 95) (sh' := (SH.take 96)) (mc' := 4) (ms' := 18) (by decide) rfl aI dX8_init_333 (by decide +kernel) (by decide) (by decide +kernel) (by decide) (by decide +kernel) (hz _ (by decide) (by decide)) rfl rfl ?_
  refine wv_putFR (ci := 8) (k := 77) (by decide) (by decide) gX8_136 dX8_init_335 rfl rfl rfl rfl (by decide +kernel) ?_
  replace hz := zz_R (j := 55) (k := 77) (x := 95 + 1) hz (by decide)
  refine wv_aload_n dX8_init_338 rfl ?_
  refine wv_bipush (v := 9) dX8_init_339 (by decide) ?_
  refine wv_newa (t := 0) (n := 9) (j := 96) (sh' := (SH.take 97)) (mc' := 3) (ms' := 9) (by decide) rfl aI dX8_init_341 (by decide +kernel) (by decide) (by decide +kernel) (by decide) (by decide +kernel) (hz _ (by decide) (by decide)) rfl rfl ?_
  refine wv_putFR (ci := 8) (k := 78) (by decide) (by decide) gX8_139 dX8_init_343 rfl rfl rfl rfl (by decide +kernel) ?_
  replace hz := zz_R (j := 55) (k := 78) (x := 96 + 1) hz (by decide)
  refine wv_aload_n dX8_init_346 rfl ?_
  refine wv_iconst (v := 3) dX8_init_347 (by decide) ?_
  refine wv_newa (t := 0) (n := 3) (j := 97) (sh' := (SH.take 98)) (mc' := 2) (ms' := 6) (by decide) rfl aI dX8_init_348 (by decide +kernel) (by decide) (by decide +kernel) (by decide) (by decide +kernel) (hz _ (by decide) (by decide)) rfl rfl ?_
  refine wv_putFR (ci := 8) (k := 79) (by decide) (by decide) gX8_142 dX8_init_350 rfl rfl rfl rfl (by decide +kernel) ?_
  replace hz := zz_R (j := 55) (k := 79) (x := 97 + 1) hz (by decide)
  refine wv_aload_n dX8_init_353 rfl ?_
  refine wv_iconst (v := 3) dX8_init_354 (by decide) ?_
  refine wv_newa (t := 0) (n := 3) (j := 98) (sh' := (SH.take 99)) (mc' := 1) (ms' := 3) (by decide) rfl aI dX8_init_355 (by decide +kernel) (by decide) (by decide +kernel) (by decide) (by decide +kernel) (hz _ (by decide) (by decide)) rfl rfl ?_
  refine wv_putFR (ci := 8) (k := 80) (by decide) (by decide) gX8_145 dX8_init_357 rfl rfl rfl rfl (by decide +kernel) ?_
  replace hz := zz_R (j := 55) (k := 80) (x := 98 + 1) hz (by decide)
  refine wv_aload_n dX8_init_360 rfl ?_
  refine wv_iconst (v := 3) dX8_init_361 (by decide) ?_
  refine wv_newa (t := 0) (n := 3) (j := 99) (sh' := SH) (mc' := 0) (ms' := 0) (by decide) rfl aI dX8_init_362 (by decide +kernel) (by decide) (by decide +kernel) (by decide) (by decide +kernel) (hz _ (by decide) (by decide)) rfl rfl ?_
  refine wv_putFR (ci := 8) (k := 81) (by decide) (by decide) gX8_148 dX8_init_364 rfl rfl rfl rfl (by decide +kernel) ?_
  replace hz := zz_R (j := 55) (k := 81) (x := 99 + 1) hz (by decide)
  refine wv_aload_n dX8_init_367 rfl ?_
  refine wv_bipush (v := 24) dX8_init_368 (by decide) ?_
  refine wv_putI fX8_151 dX8_init_370 rfl rfl rfl rfl (by decide +kernel) ?_
  replace hz := zz_I (j := 55) (k := 28) (x := 24) hz (by decide)
  refine wv_aload_n dX8_init_373 rfl ?_
  have hR8 : wr_RC R8 := R8_rc
  refine wv_v0u (ci := 8) oX8_plainLaw kX8_154 dX8_init_374 (by decide) (by decide +kernel) ⟨rfl, by decide⟩ (Nat.le_of_ble_eq_true rfl) (Nat.le_of_ble_eq_true rfl) (x_plain hR8) ?_
  refine wv_aload_n dX8_init_377 rfl ?_
  refine wv_v0 (ci := 8) oX8_freshen kX8_157 dX8_init_378 (by decide) (by decide +kernel) ⟨rfl, by decide⟩ (Nat.le_of_ble_eq_true rfl) (Nat.le_of_ble_eq_true rfl) (x_fresh hR8) (fun v x1 J K y q => ?_)
  obtain ⟨rfl, rfl, rfl, rfl, f1, f2, f3, f4, f5, f6⟩ := q
  refine wv_ret (x := ()) rfl dX8_init_381 ?_
  have e8 : ∀ b, b ≠ 55 → b ≠ 71 → b ≠ 72 → I8 I b = I b := fun b h1 h2 h3 => by
    unfold I8 plI
    rw [wr_uI_ne h2, wr_uI_ne h3, wr_uI_ne h2, wr_uI_ne h2, wr_uI_ne h1, wr_uI_ne h1, wr_uI_ne h1, wr_uI_ne h1, wr_uI_ne h1, wr_uI_ne h1, wr_uI_ne h1, wr_uI_ne h1, wr_uI_ne h1]
  have g5 : ∀ b, b ≠ 55 → b ≠ 75 → b ≠ 76 → b ≠ 80 → J b = I8 I b := f5
  have g6 : ∀ k, k ≠ 57 → k ≠ 58 → J 55 k = I8 I 55 k := f6
  have hb : ∀ b, 55 < b → b < 100 → b ≠ 71 → b ≠ 72 → b ≠ 75 → b ≠ 76 → b ≠ 80 → ∀ k, J b k = 0 := fun b b1 b2 b3 b4 b5 b6 b7 k => by
    rw [g5 b (by omega) b5 b6 b7, e8 b (by omega) b3 b4]
    exact (h00 b b1 (by omega) k).1
  have hk : ∀ k, k ≠ 57 → k ≠ 58 → k ≠ 3 → k ≠ 59 → k ≠ 28 → k ≠ 30 → k ≠ 31 → k ≠ 32 → k ≠ 33 → k ≠ 46 → k ≠ 44 → J 55 k = 0 := fun k k1 k2 k3 k4 k5 k6 k7 k8 k9 k10 k11 => by
    rw [g6 k k1 k2]
    have e : I8 I 55 k = I 55 k := by simp [I8, plI, wr_uI, k3, k4, k5, k6, k7, k8, k9, k10, k11]
    rw [e]
    exact h55 k
  have lo : ∀ b, b < 55 ∨ b = 1000300 → J b = I b := fun b hb9 => by
    rw [g5 b (by omega) (by omega) (by omega) (by omega), e8 b (by omega) (by omega) (by omega)]
  refine ⟨rfl, rfl, rfl, rfl, fun b h => lo b (Or.inl h), lo _ (Or.inr rfl), fun c a b d B => ⟨⟨?_, by decide, fun i hi => absurd hi (Nat.not_lt_zero _)⟩, ⟨?_, ?_⟩, ⟨?_, fun s hs => ?_, fun s hs => ?_, fun s hs => ?_, fun k hk9 => absurd hk9 (Nat.not_lt_zero _), ?_, ?_, ?_, ?_, ?_, ?_, ?_⟩, ?_, ⟨⟨fun s hs => ?_, fun s hs => ?_, f3, f4⟩, f2, ?_⟩, fun s hs => ?_, ⟨?_, by decide, fun f hf => absurd hf (Nat.not_lt_zero _)⟩, ?_, fun b9 hb9 => ⟨?_, fun z => by cases z⟩⟩⟩
  · exact hk 1 (by omega) (by omega) (by omega) (by omega) (by omega) (by omega) (by omega) (by omega) (by omega) (by omega) (by omega)
  · exact hk 2 (by omega) (by omega) (by omega) (by omega) (by omega) (by omega) (by omega) (by omega) (by omega) (by omega) (by omega)
  · rw [g6 3 (by omega) (by omega)]; simp [I8, plI, wr_uI]
  · rw [g6 28 (by omega) (by omega)]; simp [I8, plI, wr_uI, gE, gN]; rfl
  · exact hb 61 (by omega) (by omega) (by omega) (by omega) (by omega) (by omega) (by omega) s
  · exact hb 60 (by omega) (by omega) (by omega) (by omega) (by omega) (by omega) (by omega) s
  · exact hb 62 (by omega) (by omega) (by omega) (by omega) (by omega) (by omega) (by omega) s
  · exact hk 29 (by omega) (by omega) (by omega) (by omega) (by omega) (by omega) (by omega) (by omega) (by omega) (by omega) (by omega)
  · rw [g6 30 (by omega) (by omega)]; simp [I8, plI, wr_uI, gE, gUp]
  · rw [g6 31 (by omega) (by omega)]; simp [I8, plI, wr_uI, gE, gRe]
  · rw [g6 32 (by omega) (by omega)]; simp [I8, plI, wr_uI, gE, gSe]; rfl
  · rw [g6 33 (by omega) (by omega)]; simp [I8, plI, wr_uI, gE, gSh]
  · rw [g6 44 (by omega) (by omega)]; simp [I8, plI, wr_uI, gE, gLn]; rfl
  · refine mlR_p (c := c) ?_ ?_ ?_ ?_
    · rw [g5 71 (by omega) (by omega) (by omega) (by omega)]; simp [I8, plI, wr_uI]
    · rw [g5 71 (by omega) (by omega) (by omega) (by omega)]; simp [I8, plI, wr_uI]
    · rw [g5 71 (by omega) (by omega) (by omega) (by omega)]; simp [I8, plI, wr_uI]
    · rw [g5 72 (by omega) (by omega) (by omega) (by omega)]; simp [I8, plI, wr_uI]
  · rw [g6 46 (by omega) (by omega)]; simp [I8, plI, wr_uI]; rfl
  · obtain ⟨q1, q2⟩ := f1 s hs
    have e61 : I8 I 61 s = 0 := by rw [e8 61 (by omega) (by omega) (by omega)]; exact (h00 61 (by omega) (by omega) s).1
    have q3 : J 75 s = gp (I8 I 61 s) := q1
    rw [q3, e61]
    rfl
  · exact (f1 s hs).2
  · rw [g6 59 (by omega) (by omega)]; simp [I8, plI, wr_uI]
  · exact hb 82 (by omega) (by omega) (by omega) (by omega) (by omega) (by omega) (by omega) s
  · exact hk 69 (by omega) (by omega) (by omega) (by omega) (by omega) (by omega) (by omega) (by omega) (by omega) (by omega) (by omega)
  · exact hk 70 (by omega) (by omega) (by omega) (by omega) (by omega) (by omega) (by omega) (by omega) (by omega) (by omega) (by omega)
  · exact hb 93 (by omega) (by omega) (by omega) (by omega) (by omega) (by omega) (by omega) b9
