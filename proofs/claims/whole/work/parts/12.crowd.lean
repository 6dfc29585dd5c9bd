/-! class Crowd -/
def isC (R : wr_TR) (c : Nat) : Prop := 18 ≤ c ∧ c ≤ 50 ∧ SH[c]? = some (.inr 0) ∧ SH[c + 1]? = some (.inl (0, 40)) ∧ SH[c + 2]? = some (.inl (0, 40)) ∧ SH[c + 3]? = some (.inl (0, 3)) ∧ SH[c + 4]? = some (.inl (0, 7)) ∧ R c 0 = c + 1 + 1 ∧ R c 1 = c + 2 + 1 ∧ R c 2 = c + 3 + 1 ∧ R c 3 = c + 4 + 1
def isG (R : wr_TR) (t : Nat) : Prop := (t = 3 ∨ t = 10) ∧ SH[t]? = some (.inr 5) ∧ SH[t + 1]? = some (.inr 2) ∧ SH[t + 2]? = some (.inl (0, 260)) ∧ SH[t + 3]? = some (.inl (0, 30)) ∧ SH[t + 4]? = some (.inl (0, 6)) ∧ SH[t + 5]? = some (.inl (0, 6)) ∧ SH[t + 6]? = some (.inl (0, 6)) ∧ R t 0 = t + 1 + 1 ∧ R t 1 = t + 4 + 1 ∧ R t 2 = t + 5 + 1 ∧ R t 3 = t + 6 + 1 ∧ R (t + 1) 0 = t + 2 + 1 ∧ R (t + 1) 1 = t + 3 + 1
theorem lb_bit (x : Int64) {s : Nat} (hs : s < 64) : (us x (nI s) &&& 1 = 0) ↔ lb x s = false := by
  have e : ∀ i, lb (us x (nI s) &&& 1) i = (lb x (s + i) && decide (i = 0)) := fun i => by rw [lb_and, lb_1]; unfold us; rw [lb_ushr s hs]
  constructor
  · intro h
    have := e 0
    rw [h, lb_0] at this
    simpa using this.symm
  · intro h
    apply lb_ext
    intro i _
    rw [e, lb_0]
    by_cases hi : i = 0
    · subst hi; simpa using h
    · simp [hi]
set_option maxHeartbeats 4000000 in
set_option maxRecDepth 100000 in
theorem cW_holds {l : Launch} {I : wr_TI} {L : wr_TL} {R : wr_TR} (x : Int64) (s : Nat) (hs : s < 64) : wr_E l 0 mX7_holds [.long x, .int (nI s)] SH I L R (some (.int (if lb x s = true then 1 else 0))) I L R := by
  refine wv_pad 0 ?_
  show wr_V l 0 mX7_holds 0 [some (.long x), none, some (.int (nI s))] [] SH I L R 0 0 _
  refine wv_lload_n dX7_holds_0 rfl ?_
  refine wv_iload_n dX7_holds_1 rfl ?_
  refine wv_lushr dX7_holds_2 ?_
  refine wv_lconst (v := 1) dX7_holds_3 (by decide) ?_
  refine wv_land dX7_holds_4 ?_
  refine wv_lconst (v := 0) dX7_holds_5 (by decide) ?_
  refine wv_lcmp dX7_holds_6 ?_
  refine wv_if_eq (tgt := 14) dX7_holds_7 (by decide) (fun h7 => ?_) (fun h7 => ?_)
  · refine wv_iconst (v := 0) dX7_holds_14 (by decide) ?_
    refine wv_zret rfl rfl dX7_holds_15 ?_
    refine ⟨?_, rfl, rfl, rfl, rfl⟩
    rw [lg_cmp_eq] at h7
    have q := lb_bit x hs
    unfold us at q
    rw [q] at h7
    simp [h7]
  · refine wv_iconst (v := 1) dX7_holds_10 (by decide) ?_
    refine wv_goto (tgt := 15) dX7_holds_11 (by decide) ?_
    refine wv_zret rfl rfl dX7_holds_15 ?_
    refine ⟨?_, rfl, rfl, rfl, rfl⟩
    rw [lg_cmp_eq] at h7
    have q := lb_bit x hs
    unfold us at q
    rw [q] at h7
    simp [h7]

def zI (I : wr_TI) (c : Nat) : wr_TI := fun a b => if ((a = c + 1 ∨ a = c + 2) ∧ b < 40) ∨ (a = c + 3 ∧ b < 3) ∨ (a = c ∧ (b = 6 ∨ b = 7)) then 0 else I a b
def zL (L : wr_TL) (c : Nat) : wr_TL := fun a b => if a = c ∧ (b = 4 ∨ b = 5) then 0 else L a b
def zI1 (I : wr_TI) (c i : Nat) : wr_TI := fun a b => if (a = c + 1 ∨ a = c + 2) ∧ b < i then 0 else I a b
def zI2 (I : wr_TI) (c i : Nat) : wr_TI := fun a b => if a = c + 3 ∧ b < i then 0 else zI1 I c 40 a b
set_option maxHeartbeats 4000000 in
set_option maxRecDepth 100000 in
theorem cC_freshen {l : Launch} {I : wr_TI} {L : wr_TL} {R : wr_TR} (c : Nat) (hc : isC R c) : wr_E l 0 mX0_freshen [.ref c] SH I L R none (zI I c) (zL L c) R := by
  obtain ⟨z0, z1, c0, c1, c2, c3, c4, r0, r1, r2, r3⟩ := hc
  have lp2 : ∀ (k i : Nat), i + k = 3 → wr_V l 0 mX0_freshen 30 [some (.ref c), some (.int (nI i))] [] SH (zI2 I c i) L R 0 0 (wr_EQ none SH (zI I c) (zL L c) R) := by
    intro k
    induction k with
    | zero =>
      intro i hi
      obtain rfl : i = 3 := by omega
      refine wv_iload_n dX0_freshen_30 rfl ?_
      refine wv_iconst (v := 3) dX0_freshen_31 (by decide) ?_
      refine wv_icmp_ge (tgt := 48) dX0_freshen_32 (by decide) (fun h32 => ?_) (fun h32 => absurd (nI_le (a := 3) (by omega) (by omega)) h32)
      refine wv_aload_n dX0_freshen_48 rfl ?_
      refine wv_lconst (v := 0) dX0_freshen_49 (by decide) ?_
      refine wv_putL fX0_28 dX0_freshen_50 rfl rfl rfl rfl (by first | assumption | rfl) ?_
      refine wv_aload_n dX0_freshen_53 rfl ?_
      refine wv_lconst (v := 0) dX0_freshen_54 (by decide) ?_
      refine wv_putL fX0_32 dX0_freshen_55 rfl rfl rfl rfl (by first | assumption | rfl) ?_
      refine wv_aload_n dX0_freshen_58 rfl ?_
      refine wv_iconst (v := 0) dX0_freshen_59 (by decide) ?_
      refine wv_putI fX0_35 dX0_freshen_60 rfl rfl rfl rfl (by first | assumption | rfl) ?_
      refine wv_aload_n dX0_freshen_63 rfl ?_
      refine wv_iconst (v := 0) dX0_freshen_64 (by decide) ?_
      refine wv_putI fX0_38 dX0_freshen_65 rfl rfl rfl rfl (by first | assumption | rfl) ?_
      refine wv_ret (x := ()) rfl dX0_freshen_68 ?_
      refine ⟨rfl, rfl, ?_, ?_, rfl⟩
      · funext a b; simp only [wr_uI, zI, zI2, zI1]; grind
      · funext a b; simp only [wr_uL, zL]; grind
    | succ k ih =>
      intro i hi
      refine wv_iload_n dX0_freshen_30 rfl ?_
      refine wv_iconst (v := 3) dX0_freshen_31 (by decide) ?_
      refine wv_icmp_ge (tgt := 48) dX0_freshen_32 (by decide) (fun h32 => absurd h32 (nI_ge (b := 3) (by omega) (by omega))) (fun h32 => ?_)
      refine wv_aload_n dX0_freshen_35 rfl ?_
      refine wv_getR fX0_18 dX0_freshen_36 rfl (by first | assumption | rfl) (by first | exact hR _ _ _ rfl | assumption) ?_
      refine wv_iload_n dX0_freshen_39 rfl ?_
      refine wv_iconst (v := 0) dX0_freshen_40 (by decide) ?_
      refine wv_iastN dX0_freshen_41 (by first | assumption | rfl) (by omega) (by decide) ?_
      refine wv_iinc (v := nI (i + 1)) dX0_freshen_42 rfl (nI_1 (i)) (by decide) ?_
      refine wv_goto (tgt := 30) dX0_freshen_45 (by decide) ?_
      refine wv_I (I' := zI2 I c (i + 1)) (fun a b => by simp only [wr_uI, zI2]; grind) ?_
      exact wv_le (by simp [wr_leq, wr_s1, wr_s2, wr_wide]) (ih (i + 1) (by omega))
  have lp1 : ∀ (k i : Nat), i + k = 40 → wr_V l 0 mX0_freshen 2 [some (.ref c), some (.int (nI i))] [] SH (zI1 I c i) L R 0 0 (wr_EQ none SH (zI I c) (zL L c) R) := by
    intro k
    induction k with
    | zero =>
      intro i hi
      obtain rfl : i = 40 := by omega
      refine wv_iload_n dX0_freshen_2 rfl ?_
      refine wv_bipush (v := 40) dX0_freshen_3 (by decide) ?_
      refine wv_icmp_ge (tgt := 28) dX0_freshen_5 (by decide) (fun h5 => ?_) (fun h5 => absurd (nI_le (a := 40) (by omega) (by omega)) h5)
      refine wv_iconst (v := nI 0) dX0_freshen_28 rfl ?_
      refine wv_istore_k (i := 1) dX0_freshen_29 rfl (by decide) ?_
      refine wv_I (I' := zI2 I c 0) (fun a b => by simp only [zI2]; grind) ?_
      exact wv_le (by simp [wr_leq, wr_s1, wr_s2, wr_wide]) (lp2 3 0 (by omega))
    | succ k ih =>
      intro i hi
      refine wv_iload_n dX0_freshen_2 rfl ?_
      refine wv_bipush (v := 40) dX0_freshen_3 (by decide) ?_
      refine wv_icmp_ge (tgt := 28) dX0_freshen_5 (by decide) (fun h5 => absurd h5 (nI_ge (b := 40) (by omega) (by omega))) (fun h5 => ?_)
      refine wv_aload_n dX0_freshen_8 rfl ?_
      refine wv_getR fX0_9 dX0_freshen_9 rfl (by first | assumption | rfl) (by first | exact hR _ _ _ rfl | assumption) ?_
      refine wv_iload_n dX0_freshen_12 rfl ?_
      refine wv_iconst (v := 0) dX0_freshen_13 (by decide) ?_
      refine wv_iastN dX0_freshen_14 (by first | assumption | rfl) (by omega) (by decide) ?_
      refine wv_aload_n dX0_freshen_15 rfl ?_
      refine wv_getR fX0_15 dX0_freshen_16 rfl (by first | assumption | rfl) (by first | exact hR _ _ _ rfl | assumption) ?_
      refine wv_iload_n dX0_freshen_19 rfl ?_
      refine wv_iconst (v := 0) dX0_freshen_20 (by decide) ?_
      refine wv_iastN dX0_freshen_21 (by first | assumption | rfl) (by omega) (by decide) ?_
      refine wv_iinc (v := nI (i + 1)) dX0_freshen_22 rfl (nI_1 (i)) (by decide) ?_
      refine wv_goto (tgt := 2) dX0_freshen_25 (by decide) ?_
      refine wv_I (I' := zI1 I c (i + 1)) (fun a b => by simp only [wr_uI, zI1]; grind) ?_
      exact wv_le (by simp [wr_leq, wr_s1, wr_s2, wr_wide]) (ih (i + 1) (by omega))
  refine wv_pad 1 ?_
  show wr_V l 0 mX0_freshen 0 [some (.ref c), none] [] SH I L R 0 0 _
  refine wv_iconst (v := nI 0) dX0_freshen_0 rfl ?_
  refine wv_istore_k (i := 1) dX0_freshen_1 rfl (by decide) ?_
  refine wv_I (I' := zI1 I c 0) (fun a b => by simp only [zI1]; grind) ?_
  exact wv_le (by simp [wr_leq, wr_s1, wr_s2, wr_wide]) (lp1 40 0 (by omega))

def yI (I : wr_TI) (c q : Nat) : wr_TI := fun a b => if a = c + 1 ∧ b < 40 then I (q + 1) b else if a = c + 2 ∧ b < 40 then I (q + 2) b else if a = c + 3 ∧ b < 3 then I (q + 3) b else if a = c ∧ (b = 6 ∨ b = 7 ∨ b = 8) then I q b else I a b
def yL (L : wr_TL) (c q : Nat) : wr_TL := fun a b => if a = c ∧ (b = 4 ∨ b = 5) then L q b else L a b
def yI1 (I : wr_TI) (c q i : Nat) : wr_TI := fun a b => if a = c + 1 ∧ b < i then I (q + 1) b else if a = c + 2 ∧ b < i then I (q + 2) b else I a b
def yI2 (I : wr_TI) (c q i : Nat) : wr_TI := fun a b => if a = c + 3 ∧ b < i then I (q + 3) b else yI1 I c q 40 a b
set_option maxHeartbeats 4000000 in
set_option maxRecDepth 100000 in
theorem cC_copy {l : Launch} {I : wr_TI} {L : wr_TL} {R : wr_TR} (c q : Nat) (hc : isC R c) (hq : isC R q) (hcq : c + 5 ≤ q ∨ q + 5 ≤ c) : wr_E l 0 mX0_copy [.ref c, .ref q] SH I L R none (yI I c q) (yL L c q) R := by
  obtain ⟨z0, z1, c0, c1, c2, c3, c4, r0, r1, r2, r3⟩ := hc
  obtain ⟨x0, x1, d0, d1, d2, d3, d4, s0, s1, s2, s3⟩ := hq
  have lp2 : ∀ (k i : Nat), i + k = 3 → wr_V l 0 mX0_copy 40 [some (.ref c), some (.ref q), some (.int (nI i))] [] SH (yI2 I c q i) L R 0 0 (wr_EQ none SH (yI I c q) (yL L c q) R) := by
    intro k
    induction k with
    | zero =>
      intro i hi
      obtain rfl : i = 3 := by omega
      refine wv_iload_n dX0_copy_40 rfl ?_
      refine wv_iconst (v := 3) dX0_copy_41 (by decide) ?_
      refine wv_icmp_ge (tgt := 63) dX0_copy_42 (by decide) (fun h42 => ?_) (fun h42 => absurd (nI_le (a := 3) (by omega) (by omega)) h42)
      refine wv_aload_n dX0_copy_63 rfl ?_
      refine wv_aload_n dX0_copy_64 rfl ?_
      refine wv_getL fX0_28 dX0_copy_65 rfl (by first | assumption | rfl) ?_
      refine wv_putL fX0_28 dX0_copy_68 rfl rfl rfl rfl (by first | assumption | rfl) ?_
      refine wv_aload_n dX0_copy_71 rfl ?_
      refine wv_aload_n dX0_copy_72 rfl ?_
      refine wv_getL fX0_32 dX0_copy_73 rfl (by first | assumption | rfl) ?_
      refine wv_putL fX0_32 dX0_copy_76 rfl rfl rfl rfl (by first | assumption | rfl) ?_
      refine wv_aload_n dX0_copy_79 rfl ?_
      refine wv_aload_n dX0_copy_80 rfl ?_
      refine wv_getI fX0_35 dX0_copy_81 rfl (by first | assumption | rfl) ?_
      refine wv_putI fX0_35 dX0_copy_84 rfl rfl rfl rfl (by first | assumption | rfl) ?_
      refine wv_aload_n dX0_copy_87 rfl ?_
      refine wv_aload_n dX0_copy_88 rfl ?_
      refine wv_getI fX0_38 dX0_copy_89 rfl (by first | assumption | rfl) ?_
      refine wv_putI fX0_38 dX0_copy_92 rfl rfl rfl rfl (by first | assumption | rfl) ?_
      refine wv_aload_n dX0_copy_95 rfl ?_
      refine wv_aload_n dX0_copy_96 rfl ?_
      refine wv_getI fX0_24 dX0_copy_97 rfl (by first | assumption | rfl) ?_
      refine wv_putI fX0_24 dX0_copy_100 rfl rfl rfl rfl (by first | assumption | rfl) ?_
      refine wv_ret (x := ()) rfl dX0_copy_103 ?_
      refine ⟨rfl, rfl, ?_, ?_, rfl⟩
      · funext a b; simp only [wr_uI, yI, yI2, yI1]; grind
      · funext a b; simp only [wr_uL, yL]; grind
    | succ k ih =>
      intro i hi
      refine wv_iload_n dX0_copy_40 rfl ?_
      refine wv_iconst (v := 3) dX0_copy_41 (by decide) ?_
      refine wv_icmp_ge (tgt := 63) dX0_copy_42 (by decide) (fun h42 => absurd h42 (nI_ge (b := 3) (by omega) (by omega))) (fun h42 => ?_)
      refine wv_aload_n dX0_copy_45 rfl ?_
      refine wv_getR fX0_18 dX0_copy_46 rfl (by first | assumption | rfl) (by first | exact hR _ _ _ rfl | assumption) ?_
      refine wv_iload_n dX0_copy_49 rfl ?_
      refine wv_aload_n dX0_copy_50 rfl ?_
      refine wv_getR fX0_18 dX0_copy_51 rfl (by first | assumption | rfl) (by first | exact hR _ _ _ rfl | assumption) ?_
      refine wv_iload_n dX0_copy_54 rfl ?_
      refine wv_ialdN dX0_copy_55 (by first | assumption | rfl) (by omega) (by decide) ?_
      refine wv_iastN dX0_copy_56 (by first | assumption | rfl) (by omega) (by decide) ?_
      refine wv_iinc (v := nI (i + 1)) dX0_copy_57 rfl (nI_1 (i)) (by decide) ?_
      refine wv_goto (tgt := 40) dX0_copy_60 (by decide) ?_
      refine wv_I (I' := yI2 I c q (i + 1)) (fun a b => by simp only [wr_uI, yI2, yI1]; grind) ?_
      exact wv_le (by simp [wr_leq, wr_s1, wr_s2, wr_wide]) (ih (i + 1) (by omega))
  have lp1 : ∀ (k i : Nat), i + k = 40 → wr_V l 0 mX0_copy 2 [some (.ref c), some (.ref q), some (.int (nI i))] [] SH (yI1 I c q i) L R 0 0 (wr_EQ none SH (yI I c q) (yL L c q) R) := by
    intro k
    induction k with
    | zero =>
      intro i hi
      obtain rfl : i = 40 := by omega
      refine wv_iload_n dX0_copy_2 rfl ?_
      refine wv_bipush (v := 40) dX0_copy_3 (by decide) ?_
      refine wv_icmp_ge (tgt := 38) dX0_copy_5 (by decide) (fun h5 => ?_) (fun h5 => absurd (nI_le (a := 40) (by omega) (by omega)) h5)
      refine wv_iconst (v := nI 0) dX0_copy_38 rfl ?_
      refine wv_istore_k (i := 2) dX0_copy_39 rfl (by decide) ?_
      refine wv_I (I' := yI2 I c q 0) (fun a b => by simp only [yI2]; grind) ?_
      exact wv_le (by simp [wr_leq, wr_s1, wr_s2, wr_wide]) (lp2 3 0 (by omega))
    | succ k ih =>
      intro i hi
      refine wv_iload_n dX0_copy_2 rfl ?_
      refine wv_bipush (v := 40) dX0_copy_3 (by decide) ?_
      refine wv_icmp_ge (tgt := 38) dX0_copy_5 (by decide) (fun h5 => absurd h5 (nI_ge (b := 40) (by omega) (by omega))) (fun h5 => ?_)
      refine wv_aload_n dX0_copy_8 rfl ?_
      refine wv_getR fX0_9 dX0_copy_9 rfl (by first | assumption | rfl) (by first | exact hR _ _ _ rfl | assumption) ?_
      refine wv_iload_n dX0_copy_12 rfl ?_
      refine wv_aload_n dX0_copy_13 rfl ?_
      refine wv_getR fX0_9 dX0_copy_14 rfl (by first | assumption | rfl) (by first | exact hR _ _ _ rfl | assumption) ?_
      refine wv_iload_n dX0_copy_17 rfl ?_
      refine wv_ialdN dX0_copy_18 (by first | assumption | rfl) (by omega) (by decide) ?_
      refine wv_iastN dX0_copy_19 (by first | assumption | rfl) (by omega) (by decide) ?_
      refine wv_aload_n dX0_copy_20 rfl ?_
      refine wv_getR fX0_15 dX0_copy_21 rfl (by first | assumption | rfl) (by first | exact hR _ _ _ rfl | assumption) ?_
      refine wv_iload_n dX0_copy_24 rfl ?_
      refine wv_aload_n dX0_copy_25 rfl ?_
      refine wv_getR fX0_15 dX0_copy_26 rfl (by first | assumption | rfl) (by first | exact hR _ _ _ rfl | assumption) ?_
      refine wv_iload_n dX0_copy_29 rfl ?_
      refine wv_ialdN dX0_copy_30 (by first | assumption | rfl) (by omega) (by decide) ?_
      refine wv_iastN dX0_copy_31 (by first | assumption | rfl) (by omega) (by decide) ?_
      refine wv_iinc (v := nI (i + 1)) dX0_copy_32 rfl (nI_1 (i)) (by decide) ?_
      refine wv_goto (tgt := 2) dX0_copy_35 (by decide) ?_
      refine wv_I (I' := yI1 I c q (i + 1)) (fun a b => by simp only [wr_uI, yI1]; grind) ?_
      exact wv_le (by simp [wr_leq, wr_s1, wr_s2, wr_wide]) (ih (i + 1) (by omega))
  refine wv_pad 1 ?_
  show wr_V l 0 mX0_copy 0 [some (.ref c), some (.ref q), none] [] SH I L R 0 0 _
  refine wv_iconst (v := nI 0) dX0_copy_0 rfl ?_
  refine wv_istore_k (i := 2) dX0_copy_1 rfl (by decide) ?_
  refine wv_I (I' := yI1 I c q 0) (fun a b => by simp only [yI1]; grind) ?_
  exact wv_le (by simp [wr_leq, wr_s1, wr_s2, wr_wide]) (lp1 40 0 (by omega))

