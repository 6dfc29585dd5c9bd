/-! the move of a tenth -/
def mvN (I : wr_TI) (c t : Nat) (P : Nat → Bool) (b : Nat) : Int32 := if P b = true then 1 else if I (c + 1) b = 0 then 0 else bh (I t 9) (I t 10) (I (c + 1) b)
def mvS (I : wr_TI) (c t : Nat) (P : Nat → Bool) (i : Nat) : wr_TI := fun a b => if a = c + 1 ∧ b < i then mvN I c t P b else if a = c + 2 ∧ b < i ∧ P b = true then I (c + 2) b + 1 else I a b
def mvK (I : wr_TI) (c t : Nat) (P : Nat → Bool) : Nat → Bool := fun b => !P b && decide (mvN I c t P b ≠ 0) && decide (mvN I c t P b < 10)
def mvL (I : wr_TI) (L : wr_TL) (c t : Nat) (x : Int64) (i : Nat) : wr_TL := fun a b => if a = c ∧ b = 4 then orb x (mvK I c t (lb x)) i else if a = c ∧ b = 5 then x else L a b
def mvI (I : wr_TI) (c t : Nat) (x : Int64) (n : Nat) : wr_TI := fun a b => if a = c ∧ b = 6 then I c 6 + 1 else mvS I c t (lb x) n a b
set_option maxHeartbeats 4000000 in
set_option maxRecDepth 100000 in
theorem cC_move {l : Launch} {I : wr_TI} {L : wr_TL} {R : wr_TR} (c t n : Nat) (x : Int64) (hc : isC R c) (hg : isG R t) (hn : I t 5 = nI n) (h40 : n ≤ 40) : wr_E l 1 mX0_move [.ref c, .ref t, .long x] SH I L R none (mvI I c t x n) (mvL I L c t x n) R := by
  obtain ⟨z0, z1, c0, c1, c2, c3, c4, r0, r1, r2, r3⟩ := hc
  obtain ⟨y0, g0, g1, g2, g3, g4, g5, g6, p0, p1, p2, p3, p4, p5⟩ := hg
  have lp : ∀ (k i : Nat), i + k = n → wr_V l 1 mX0_move 13 [some (.ref c), some (.ref t), some (.long x), none, some (.int (nI i))] [] SH (mvS I c t (lb x) i) (mvL I L c t x i) R 0 0 (wr_EQ none SH (mvI I c t x n) (mvL I L c t x n) R) := by
    intro k
    induction k with
    | zero =>
      intro i hi
      obtain rfl : i = n := by omega
      have hJ : mvS I c t (lb x) i t 5 = nI i := by rw [← hn]; simp only [mvS]; rw [if_neg (by omega), if_neg (by omega)]
      refine wv_iload dX0_move_13 rfl ?_
      refine wv_bipush (v := 40) dX0_move_15 (by decide) ?_
      refine wv_icmp_ge (tgt := 133) dX0_move_17 (by decide) (fun h17 => ?_) (fun h17 => ?_)
      · refine wv_aload_n dX0_move_133 rfl ?_
        refine wv_dup dX0_move_134 rfl ?_
        refine wv_getI fX0_35 dX0_move_135 rfl (by first | assumption | rfl) ?_
        refine wv_iconst (v := 1) dX0_move_138 (by decide) ?_
        refine wv_iadd dX0_move_139 ?_
        refine wv_putI fX0_35 dX0_move_140 rfl rfl rfl rfl (by first | assumption | rfl) ?_
        refine wv_ret (x := ()) rfl dX0_move_143 ?_
        refine ⟨rfl, rfl, ?_, rfl, rfl⟩
        funext a b; simp only [wr_uI, mvI, mvS]; grind
      · refine wv_iload dX0_move_20 rfl ?_
        refine wv_aload_n dX0_move_22 rfl ?_
        refine wv_getI fX0_62 dX0_move_23 rfl (by first | assumption | rfl) ?_
        refine wv_icmp_ge (tgt := 133) dX0_move_26 (by decide) (fun h26 => ?_) (fun h26 => absurd (by rw [hJ]; exact nI_le (Nat.le_refl _) (by omega)) h26)
        refine wv_aload_n dX0_move_133 rfl ?_
        refine wv_dup dX0_move_134 rfl ?_
        refine wv_getI fX0_35 dX0_move_135 rfl (by first | assumption | rfl) ?_
        refine wv_iconst (v := 1) dX0_move_138 (by decide) ?_
        refine wv_iadd dX0_move_139 ?_
        refine wv_putI fX0_35 dX0_move_140 rfl rfl rfl rfl (by first | assumption | rfl) ?_
        refine wv_ret (x := ()) rfl dX0_move_143 ?_
        refine ⟨rfl, rfl, ?_, rfl, rfl⟩
        funext a b; simp only [wr_uI, mvI, mvS]; grind
    | succ k ih =>
      intro i hi
      have hJ : mvS I c t (lb x) i t 5 = nI n := by rw [← hn]; simp only [mvS]; rw [if_neg (by omega), if_neg (by omega)]
      have hJ9 : ∀ v, wr_uI (mvS I c t (lb x) i) (c + 1) i v t 9 = I t 9 := fun v => by rw [wr_uI_ne (by omega)]; simp only [mvS]; rw [if_neg (by omega), if_neg (by omega)]
      have hU : mvS I c t (lb x) i t 9 = I t 9 := by simp only [mvS]; rw [if_neg (by omega), if_neg (by omega)]
      have hRe : mvS I c t (lb x) i t 10 = I t 10 := by simp only [mvS]; rw [if_neg (by omega), if_neg (by omega)]
      have hsi : mvS I c t (lb x) i (c + 1) i = I (c + 1) i := by simp [mvS]
      have hri : mvS I c t (lb x) i (c + 2) i = I (c + 2) i := by simp [mvS]
      have hup : ∀ v, wr_uI (mvS I c t (lb x) i) (c + 1) i v (c + 1) i = v := fun v => by simp [wr_uI]
      refine wv_iload dX0_move_13 rfl ?_
      refine wv_bipush (v := 40) dX0_move_15 (by decide) ?_
      refine wv_icmp_ge (tgt := 133) dX0_move_17 (by decide) (fun h17 => absurd h17 (nI_ge (b := 40) (by omega) (by omega))) (fun h17 => ?_)
      refine wv_iload dX0_move_20 rfl ?_
      refine wv_aload_n dX0_move_22 rfl ?_
      refine wv_getI fX0_62 dX0_move_23 rfl (by first | assumption | rfl) ?_
      refine wv_icmp_ge (tgt := 133) dX0_move_26 (by decide) (fun h26 => absurd h26 (by rw [hJ]; exact nI_ge (by omega) (by omega))) (fun h26 => ?_)
      refine wv_lload_n dX0_move_29 rfl ?_
      refine wv_iload dX0_move_30 rfl ?_
      refine wv_s2e oX7_holds kX0_48 dX0_move_32 (by omega) (Nat.le_of_ble_eq_true rfl) (Nat.le_of_ble_eq_true rfl) (cW_holds _ _ (by omega)) ?_
      refine wv_if_eq (tgt := 60) dX0_move_35 (by decide) (fun h35 => ?_) (fun h35 => ?_)
      · have hPf : lb x i = false := by cases hz : lb x i <;> simp_all
        refine wv_aload_n dX0_move_60 rfl ?_
        refine wv_getR fX0_9 dX0_move_61 rfl (by first | assumption | rfl) (by first | exact hR _ _ _ rfl | assumption) ?_
        refine wv_iload dX0_move_64 rfl ?_
        refine wv_ialdN dX0_move_66 (by first | assumption | rfl) (by omega) (by decide) ?_
        rw [hsi]
        refine wv_if_eq (tgt := 127) dX0_move_67 (by decide) (fun h67 => ?_) (fun h67 => ?_)
        · refine wv_iinc (v := nI (i + 1)) dX0_move_127 rfl (nI_1 (i)) (by decide) ?_
          refine wv_goto (tgt := 13) dX0_move_130 (by decide) ?_
          refine wv_I (I' := mvS I c t (lb x) (i + 1)) (fun a b => by simp only [wr_uI, mvS, mvN]; grind) (wv_L (L' := mvL I L c t x (i + 1)) (fun a b => by simp only [wr_uL, mvL, orb, mvK, Int64.or_zero]; grind [mvN]) ?_)
          exact wv_le (by simp [wr_leq, wr_s1, wr_s2, wr_wide]) (ih (i + 1) (by omega))
        · refine wv_aload_n dX0_move_70 rfl ?_
          refine wv_getR fX0_9 dX0_move_71 rfl (by first | assumption | rfl) (by first | exact hR _ _ _ rfl | assumption) ?_
          refine wv_iload dX0_move_74 rfl ?_
          refine wv_aload_n dX0_move_76 rfl ?_
          refine wv_aload_n dX0_move_77 rfl ?_
          refine wv_getR fX0_9 dX0_move_78 rfl (by first | assumption | rfl) (by first | exact hR _ _ _ rfl | assumption) ?_
          refine wv_iload dX0_move_81 rfl ?_
          refine wv_ialdN dX0_move_83 (by first | assumption | rfl) (by omega) (by decide) ?_
          rw [hsi]
          refine wv_s2e oX0_stateBehind kX0_125 dX0_move_84 (by omega) (Nat.le_of_ble_eq_true rfl) (Nat.le_of_ble_eq_true rfl) (cC_behind _ _ (by assumption)) ?_
          rw [hU, hRe]
          refine wv_iastN dX0_move_87 (by first | assumption | rfl) (by omega) (by decide) ?_
          refine wv_aload_n dX0_move_88 rfl ?_
          refine wv_dup dX0_move_89 rfl ?_
          refine wv_getL fX0_28 dX0_move_90 rfl (by first | assumption | rfl) ?_
          refine wv_aload_n dX0_move_93 rfl ?_
          refine wv_getR fX0_9 dX0_move_94 rfl (by first | assumption | rfl) (by first | exact hR _ _ _ rfl | assumption) ?_
          refine wv_iload dX0_move_97 rfl ?_
          refine wv_ialdN dX0_move_99 (by first | assumption | rfl) (by omega) (by decide) ?_
          refine wv_if_eq (tgt := 122) dX0_move_100 (by decide) (fun h100 => ?_) (fun h100 => ?_)
          · refine wv_lconst (v := 0) dX0_move_122 (by decide) ?_
            refine wv_lor dX0_move_123 ?_
            refine wv_putL fX0_28 dX0_move_124 rfl rfl rfl rfl (by first | assumption | rfl) ?_
            refine wv_iinc (v := nI (i + 1)) dX0_move_127 rfl (nI_1 (i)) (by decide) ?_
            refine wv_goto (tgt := 13) dX0_move_130 (by decide) ?_
            refine wv_I (I' := mvS I c t (lb x) (i + 1)) (fun a b => by simp only [wr_uI, mvS, mvN]; grind) (wv_L (L' := mvL I L c t x (i + 1)) (fun a b => by simp only [wr_uL, mvL, orb, mvK, Int64.or_zero]; grind [mvN]) ?_)
            exact wv_le (by simp [wr_leq, wr_s1, wr_s2, wr_wide]) (ih (i + 1) (by omega))
          · refine wv_aload_n dX0_move_103 rfl ?_
            refine wv_getR fX0_9 dX0_move_104 rfl (by first | assumption | rfl) (by first | exact hR _ _ _ rfl | assumption) ?_
            refine wv_iload dX0_move_107 rfl ?_
            refine wv_ialdN dX0_move_109 (by first | assumption | rfl) (by omega) (by decide) ?_
            refine wv_bipush (v := 10) dX0_move_110 (by decide) ?_
            refine wv_icmp_ge (tgt := 122) dX0_move_112 (by decide) (fun h112 => ?_) (fun h112 => ?_)
            · refine wv_lconst (v := 0) dX0_move_122 (by decide) ?_
              refine wv_lor dX0_move_123 ?_
              refine wv_putL fX0_28 dX0_move_124 rfl rfl rfl rfl (by first | assumption | rfl) ?_
              refine wv_iinc (v := nI (i + 1)) dX0_move_127 rfl (nI_1 (i)) (by decide) ?_
              refine wv_goto (tgt := 13) dX0_move_130 (by decide) ?_
              refine wv_I (I' := mvS I c t (lb x) (i + 1)) (fun a b => by simp only [wr_uI, mvS, mvN]; grind) (wv_L (L' := mvL I L c t x (i + 1)) (fun a b => by simp only [wr_uL, mvL, orb, mvK, Int64.or_zero]; grind [mvN]) ?_)
              exact wv_le (by simp [wr_leq, wr_s1, wr_s2, wr_wide]) (ih (i + 1) (by omega))
            · refine wv_lconst (v := 1) dX0_move_115 (by decide) ?_
              refine wv_iload dX0_move_116 rfl ?_
              refine wv_lshl dX0_move_118 ?_
              refine wv_goto (tgt := 123) dX0_move_119 (by decide) ?_
              refine wv_lor dX0_move_123 ?_
              refine wv_putL fX0_28 dX0_move_124 rfl rfl rfl rfl (by first | assumption | rfl) ?_
              refine wv_iinc (v := nI (i + 1)) dX0_move_127 rfl (nI_1 (i)) (by decide) ?_
              refine wv_goto (tgt := 13) dX0_move_130 (by decide) ?_
              refine wv_I (I' := mvS I c t (lb x) (i + 1)) (fun a b => by simp only [wr_uI, mvS, mvN]; grind) (wv_L (L' := mvL I L c t x (i + 1)) (fun a b => by simp only [wr_uL, mvL, orb, mvK, Int64.or_zero]; grind [mvN]) ?_)
              exact wv_le (by simp [wr_leq, wr_s1, wr_s2, wr_wide]) (ih (i + 1) (by omega))
      · have hPt : lb x i = true := by cases hz : lb x i <;> simp_all
        refine wv_aload_n dX0_move_38 rfl ?_
        refine wv_getR fX0_9 dX0_move_39 rfl (by first | assumption | rfl) (by first | exact hR _ _ _ rfl | assumption) ?_
        refine wv_iload dX0_move_42 rfl ?_
        refine wv_iconst (v := 1) dX0_move_44 (by decide) ?_
        refine wv_iastN dX0_move_45 (by first | assumption | rfl) (by omega) (by decide) ?_
        refine wv_aload_n dX0_move_46 rfl ?_
        refine wv_getR fX0_15 dX0_move_47 rfl (by first | assumption | rfl) (by first | exact hR _ _ _ rfl | assumption) ?_
        refine wv_iload dX0_move_50 rfl ?_
        refine wv_dup2 dX0_move_52 rfl rfl ?_
        refine wv_ialdN dX0_move_53 (by first | assumption | rfl) (by omega) (by decide) ?_
        refine wv_iconst (v := 1) dX0_move_54 (by decide) ?_
        refine wv_iadd dX0_move_55 ?_
        refine wv_iastN dX0_move_56 (by first | assumption | rfl) (by omega) (by decide) ?_
        refine wv_goto (tgt := 127) dX0_move_57 (by decide) ?_
        refine wv_iinc (v := nI (i + 1)) dX0_move_127 rfl (nI_1 (i)) (by decide) ?_
        refine wv_goto (tgt := 13) dX0_move_130 (by decide) ?_
        refine wv_I (I' := mvS I c t (lb x) (i + 1)) (fun a b => by simp only [wr_uI, mvS, mvN]; grind) (wv_L (L' := mvL I L c t x (i + 1)) (fun a b => by simp only [wr_uL, mvL, orb, mvK, Int64.or_zero]; grind [mvN]) ?_)
        exact wv_le (by simp [wr_leq, wr_s1, wr_s2, wr_wide]) (ih (i + 1) (by omega))
  refine wv_pad 1 ?_
  show wr_V l 1 mX0_move 0 [some (.ref c), some (.ref t), some (.long x), none, none] [] SH I L R 0 0 _
  refine wv_aload_n dX0_move_0 rfl ?_
  refine wv_lload_n dX0_move_1 rfl ?_
  refine wv_putL fX0_28 dX0_move_2 rfl rfl rfl rfl (by first | assumption | rfl) ?_
  refine wv_aload_n dX0_move_5 rfl ?_
  refine wv_lload_n dX0_move_6 rfl ?_
  refine wv_putL fX0_32 dX0_move_7 rfl rfl rfl rfl (by first | assumption | rfl) ?_
  refine wv_iconst (v := nI 0) dX0_move_10 rfl ?_
  refine wv_istore dX0_move_11 (by decide) ?_
  refine wv_I (I' := mvS I c t (lb x) 0) (fun a b => by simp only [mvS]; grind) (wv_L (L' := mvL I L c t x 0) (fun a b => by simp only [wr_uL, mvL, orb]; grind) ?_)
  exact wv_le (by simp [wr_leq, wr_s1, wr_s2, wr_wide]) (lp n 0 (by omega))

