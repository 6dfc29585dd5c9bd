/-! tokens -/
def cB (c : Int32) : Bool := decide (c = 32 ∨ c = 10)
def cLt (c : Int32) : Bool := decide (97 ≤ c ∧ c ≤ 122)
def cDg (c : Int32) : Bool := decide (48 ≤ c ∧ c ≤ 57)
def cSg (c : Int32) : Bool := decide ((40 ≤ c ∧ c ≤ 43) ∨ c = 45 ∨ (59 ≤ c ∧ c ≤ 62))
def bt (T : TP) (i : Nat) : Int32 := tpG T (nI i)
def rnE (p : Int32 → Bool) (T : TP) : Nat → Nat → Nat
  | 0, i => i
  | k + 1, i => if p (bt T i) = true then rnE p T k (i + 1) else i
def nmE (T : TP) : Nat → Nat → Int32 → Int32
  | 0, _, x => x
  | k + 1, i, x => if cDg (bt T i) = true then nmE T k (i + 1) (x * 10 + bt T i - 48) else x
theorem rnE_ge (p : Int32 → Bool) (T : TP) : ∀ k i, i ≤ rnE p T k i ∧ rnE p T k i ≤ i + k := by
  intro k
  induction k with
  | zero => intro i; simp [rnE]
  | succ k ih => intro i; simp only [rnE]; split
                 · have := ih (i + 1); omega
                 · omega
theorem wr_uI2 {I : wr_TI} {a b : Nat} {x y : Int32} : wr_uI (wr_uI I a b x) a b y = wr_uI I a b y := by
  funext c d
  simp only [wr_uI]
  split <;> rfl
theorem tpV_fr {I I' : wr_TI} {T : TP} (h : tpV I T) (h1 : I' 1 = I 1) (h2 : I' 2 = I 2) : tpV I' T := by
  unfold tpV at *
  rw [h1, h2]
  exact h
set_option maxHeartbeats 4000000 in
set_option maxRecDepth 100000 in
theorem cD_cB {l : Launch} {I : wr_TI} {L : wr_TL} {R : wr_TR} (c : Int32) : wr_E l 0 mX4_isBlank [.int c] SH I L R (some (.int (if cB c = true then 1 else 0))) I L R := by
  refine wv_pad 0 ?_
  show wr_V l 0 mX4_isBlank 0 [some (.int c)] [] SH I L R 0 0 _
  refine wv_iload_n dX4_isBlank_0 rfl ?_
  refine wv_bipush (v := 32) dX4_isBlank_1 (by decide) ?_
  refine wv_icmp_eq (tgt := 12) dX4_isBlank_3 (by decide) (fun h3 => ?_) (fun h3 => ?_)
  · refine wv_iconst (v := 1) dX4_isBlank_12 (by decide) ?_
    refine wv_goto (tgt := 17) dX4_isBlank_13 (by decide) ?_
    refine wv_zret rfl rfl dX4_isBlank_17 ?_
    refine ⟨?_, rfl, rfl, rfl, rfl⟩
    unfold cB
    first | (rw [if_pos (by simp; grind)]; done) | (rw [if_neg (by simp; grind)]; done)
  · refine wv_iload_n dX4_isBlank_6 rfl ?_
    refine wv_bipush (v := 10) dX4_isBlank_7 (by decide) ?_
    refine wv_icmp_ne (tgt := 16) dX4_isBlank_9 (by decide) (fun h9 => ?_) (fun h9 => ?_)
    · refine wv_iconst (v := 0) dX4_isBlank_16 (by decide) ?_
      refine wv_zret rfl rfl dX4_isBlank_17 ?_
      refine ⟨?_, rfl, rfl, rfl, rfl⟩
      unfold cB
      first | (rw [if_pos (by simp; grind)]; done) | (rw [if_neg (by simp; grind)]; done)
    · refine wv_iconst (v := 1) dX4_isBlank_12 (by decide) ?_
      refine wv_goto (tgt := 17) dX4_isBlank_13 (by decide) ?_
      refine wv_zret rfl rfl dX4_isBlank_17 ?_
      refine ⟨?_, rfl, rfl, rfl, rfl⟩
      unfold cB
      first | (rw [if_pos (by simp; grind)]; done) | (rw [if_neg (by simp; grind)]; done)

set_option maxHeartbeats 4000000 in
set_option maxRecDepth 100000 in
theorem cD_cLt {l : Launch} {I : wr_TI} {L : wr_TL} {R : wr_TR} (c : Int32) : wr_E l 0 mX4_isLetter [.int c] SH I L R (some (.int (if cLt c = true then 1 else 0))) I L R := by
  refine wv_pad 0 ?_
  show wr_V l 0 mX4_isLetter 0 [some (.int c)] [] SH I L R 0 0 _
  refine wv_iload_n dX4_isLetter_0 rfl ?_
  refine wv_bipush (v := 97) dX4_isLetter_1 (by decide) ?_
  refine wv_icmp_lt (tgt := 16) dX4_isLetter_3 (by decide) (fun h3 => ?_) (fun h3 => ?_)
  · refine wv_iconst (v := 0) dX4_isLetter_16 (by decide) ?_
    refine wv_zret rfl rfl dX4_isLetter_17 ?_
    refine ⟨?_, rfl, rfl, rfl, rfl⟩
    unfold cLt
    first | (rw [if_pos (by simp; grind)]; done) | (rw [if_neg (by simp; grind)]; done)
  · refine wv_iload_n dX4_isLetter_6 rfl ?_
    refine wv_bipush (v := 122) dX4_isLetter_7 (by decide) ?_
    refine wv_icmp_gt (tgt := 16) dX4_isLetter_9 (by decide) (fun h9 => ?_) (fun h9 => ?_)
    · refine wv_iconst (v := 0) dX4_isLetter_16 (by decide) ?_
      refine wv_zret rfl rfl dX4_isLetter_17 ?_
      refine ⟨?_, rfl, rfl, rfl, rfl⟩
      unfold cLt
      first | (rw [if_pos (by simp; grind)]; done) | (rw [if_neg (by simp; grind)]; done)
    · refine wv_iconst (v := 1) dX4_isLetter_12 (by decide) ?_
      refine wv_goto (tgt := 17) dX4_isLetter_13 (by decide) ?_
      refine wv_zret rfl rfl dX4_isLetter_17 ?_
      refine ⟨?_, rfl, rfl, rfl, rfl⟩
      unfold cLt
      first | (rw [if_pos (by simp; grind)]; done) | (rw [if_neg (by simp; grind)]; done)

set_option maxHeartbeats 4000000 in
set_option maxRecDepth 100000 in
theorem cD_cDg {l : Launch} {I : wr_TI} {L : wr_TL} {R : wr_TR} (c : Int32) : wr_E l 0 mX4_isDigit [.int c] SH I L R (some (.int (if cDg c = true then 1 else 0))) I L R := by
  refine wv_pad 0 ?_
  show wr_V l 0 mX4_isDigit 0 [some (.int c)] [] SH I L R 0 0 _
  refine wv_iload_n dX4_isDigit_0 rfl ?_
  refine wv_bipush (v := 48) dX4_isDigit_1 (by decide) ?_
  refine wv_icmp_lt (tgt := 16) dX4_isDigit_3 (by decide) (fun h3 => ?_) (fun h3 => ?_)
  · refine wv_iconst (v := 0) dX4_isDigit_16 (by decide) ?_
    refine wv_zret rfl rfl dX4_isDigit_17 ?_
    refine ⟨?_, rfl, rfl, rfl, rfl⟩
    unfold cDg
    first | (rw [if_pos (by simp; grind)]; done) | (rw [if_neg (by simp; grind)]; done)
  · refine wv_iload_n dX4_isDigit_6 rfl ?_
    refine wv_bipush (v := 57) dX4_isDigit_7 (by decide) ?_
    refine wv_icmp_gt (tgt := 16) dX4_isDigit_9 (by decide) (fun h9 => ?_) (fun h9 => ?_)
    · refine wv_iconst (v := 0) dX4_isDigit_16 (by decide) ?_
      refine wv_zret rfl rfl dX4_isDigit_17 ?_
      refine ⟨?_, rfl, rfl, rfl, rfl⟩
      unfold cDg
      first | (rw [if_pos (by simp; grind)]; done) | (rw [if_neg (by simp; grind)]; done)
    · refine wv_iconst (v := 1) dX4_isDigit_12 (by decide) ?_
      refine wv_goto (tgt := 17) dX4_isDigit_13 (by decide) ?_
      refine wv_zret rfl rfl dX4_isDigit_17 ?_
      refine ⟨?_, rfl, rfl, rfl, rfl⟩
      unfold cDg
      first | (rw [if_pos (by simp; grind)]; done) | (rw [if_neg (by simp; grind)]; done)

set_option maxHeartbeats 4000000 in
set_option maxRecDepth 100000 in
theorem cD_cSg {l : Launch} {I : wr_TI} {L : wr_TL} {R : wr_TR} (c : Int32) : wr_E l 0 mX4_isOneOfTheSigns [.int c] SH I L R (some (.int (if cSg c = true then 1 else 0))) I L R := by
  refine wv_pad 0 ?_
  show wr_V l 0 mX4_isOneOfTheSigns 0 [some (.int c)] [] SH I L R 0 0 _
  refine wv_iload_n dX4_isOneOfTheSigns_0 rfl ?_
  refine wv_bipush (v := 40) dX4_isOneOfTheSigns_1 (by decide) ?_
  refine wv_icmp_lt (tgt := 12) dX4_isOneOfTheSigns_3 (by decide) (fun h3 => ?_) (fun h3 => ?_)
  · refine wv_iload_n dX4_isOneOfTheSigns_12 rfl ?_
    refine wv_bipush (v := 45) dX4_isOneOfTheSigns_13 (by decide) ?_
    refine wv_icmp_eq (tgt := 30) dX4_isOneOfTheSigns_15 (by decide) (fun h15 => ?_) (fun h15 => ?_)
    · refine wv_iconst (v := 1) dX4_isOneOfTheSigns_30 (by decide) ?_
      refine wv_goto (tgt := 35) dX4_isOneOfTheSigns_31 (by decide) ?_
      refine wv_zret rfl rfl dX4_isOneOfTheSigns_35 ?_
      refine ⟨?_, rfl, rfl, rfl, rfl⟩
      unfold cSg
      first | (rw [if_pos (by simp; grind)]; done) | (rw [if_neg (by simp; grind)]; done)
    · refine wv_iload_n dX4_isOneOfTheSigns_18 rfl ?_
      refine wv_bipush (v := 59) dX4_isOneOfTheSigns_19 (by decide) ?_
      refine wv_icmp_lt (tgt := 34) dX4_isOneOfTheSigns_21 (by decide) (fun h21 => ?_) (fun h21 => ?_)
      · refine wv_iconst (v := 0) dX4_isOneOfTheSigns_34 (by decide) ?_
        refine wv_zret rfl rfl dX4_isOneOfTheSigns_35 ?_
        refine ⟨?_, rfl, rfl, rfl, rfl⟩
        unfold cSg
        first | (rw [if_pos (by simp; grind)]; done) | (rw [if_neg (by simp; grind)]; done)
      · refine wv_iload_n dX4_isOneOfTheSigns_24 rfl ?_
        refine wv_bipush (v := 62) dX4_isOneOfTheSigns_25 (by decide) ?_
        refine wv_icmp_gt (tgt := 34) dX4_isOneOfTheSigns_27 (by decide) (fun h27 => ?_) (fun h27 => ?_)
        · refine wv_iconst (v := 0) dX4_isOneOfTheSigns_34 (by decide) ?_
          refine wv_zret rfl rfl dX4_isOneOfTheSigns_35 ?_
          refine ⟨?_, rfl, rfl, rfl, rfl⟩
          unfold cSg
          first | (rw [if_pos (by simp; grind)]; done) | (rw [if_neg (by simp; grind)]; done)
        · refine wv_iconst (v := 1) dX4_isOneOfTheSigns_30 (by decide) ?_
          refine wv_goto (tgt := 35) dX4_isOneOfTheSigns_31 (by decide) ?_
          refine wv_zret rfl rfl dX4_isOneOfTheSigns_35 ?_
          refine ⟨?_, rfl, rfl, rfl, rfl⟩
          unfold cSg
          first | (rw [if_pos (by simp; grind)]; done) | (rw [if_neg (by simp; grind)]; done)
  · refine wv_iload_n dX4_isOneOfTheSigns_6 rfl ?_
    refine wv_bipush (v := 43) dX4_isOneOfTheSigns_7 (by decide) ?_
    refine wv_icmp_le (tgt := 30) dX4_isOneOfTheSigns_9 (by decide) (fun h9 => ?_) (fun h9 => ?_)
    · refine wv_iconst (v := 1) dX4_isOneOfTheSigns_30 (by decide) ?_
      refine wv_goto (tgt := 35) dX4_isOneOfTheSigns_31 (by decide) ?_
      refine wv_zret rfl rfl dX4_isOneOfTheSigns_35 ?_
      refine ⟨?_, rfl, rfl, rfl, rfl⟩
      unfold cSg
      first | (rw [if_pos (by simp; grind)]; done) | (rw [if_neg (by simp; grind)]; done)
    · refine wv_iload_n dX4_isOneOfTheSigns_12 rfl ?_
      refine wv_bipush (v := 45) dX4_isOneOfTheSigns_13 (by decide) ?_
      refine wv_icmp_eq (tgt := 30) dX4_isOneOfTheSigns_15 (by decide) (fun h15 => ?_) (fun h15 => ?_)
      · refine wv_iconst (v := 1) dX4_isOneOfTheSigns_30 (by decide) ?_
        refine wv_goto (tgt := 35) dX4_isOneOfTheSigns_31 (by decide) ?_
        refine wv_zret rfl rfl dX4_isOneOfTheSigns_35 ?_
        refine ⟨?_, rfl, rfl, rfl, rfl⟩
        unfold cSg
        first | (rw [if_pos (by simp; grind)]; done) | (rw [if_neg (by simp; grind)]; done)
      · refine wv_iload_n dX4_isOneOfTheSigns_18 rfl ?_
        refine wv_bipush (v := 59) dX4_isOneOfTheSigns_19 (by decide) ?_
        refine wv_icmp_lt (tgt := 34) dX4_isOneOfTheSigns_21 (by decide) (fun h21 => ?_) (fun h21 => ?_)
        · refine wv_iconst (v := 0) dX4_isOneOfTheSigns_34 (by decide) ?_
          refine wv_zret rfl rfl dX4_isOneOfTheSigns_35 ?_
          refine ⟨?_, rfl, rfl, rfl, rfl⟩
          unfold cSg
          first | (rw [if_pos (by simp; grind)]; done) | (rw [if_neg (by simp; grind)]; done)
        · refine wv_iload_n dX4_isOneOfTheSigns_24 rfl ?_
          refine wv_bipush (v := 62) dX4_isOneOfTheSigns_25 (by decide) ?_
          refine wv_icmp_gt (tgt := 34) dX4_isOneOfTheSigns_27 (by decide) (fun h27 => ?_) (fun h27 => ?_)
          · refine wv_iconst (v := 0) dX4_isOneOfTheSigns_34 (by decide) ?_
            refine wv_zret rfl rfl dX4_isOneOfTheSigns_35 ?_
            refine ⟨?_, rfl, rfl, rfl, rfl⟩
            unfold cSg
            first | (rw [if_pos (by simp; grind)]; done) | (rw [if_neg (by simp; grind)]; done)
          · refine wv_iconst (v := 1) dX4_isOneOfTheSigns_30 (by decide) ?_
            refine wv_goto (tgt := 35) dX4_isOneOfTheSigns_31 (by decide) ?_
            refine wv_zret rfl rfl dX4_isOneOfTheSigns_35 ?_
            refine ⟨?_, rfl, rfl, rfl, rfl⟩
            unfold cSg
            first | (rw [if_pos (by simp; grind)]; done) | (rw [if_neg (by simp; grind)]; done)

set_option maxHeartbeats 4000000 in
set_option maxRecDepth 100000 in
theorem cD_word {l : Launch} {I : wr_TI} {L : wr_TL} {R : wr_TR} (hR : wr_RC R) (T : TP) (a : Nat) (hT : tpV I T) (ha : a ≤ 800) (h6 : I 17 6 = nI a) : wr_E l 1 mX4_readWord [.ref 17] SH I L R none (wr_uI (wr_uI I 17 7 (nI (rnE cLt T (800 - a) a))) 17 5 (if 8 < rnE cLt T (800 - a) a - a then 4 else 1)) L R := by
  have en : ∀ e, a ≤ e → e ≤ 800 → wr_V l 1 mX4_readWord 32 [some (.ref 17), some (.int (nI e))] [] SH I L R 0 0 (fun v s' I' L' R' => v = none ∧ s' = SH ∧ I' = wr_uI (wr_uI I 17 7 (nI e)) 17 5 (if 8 < e - a then 4 else 1) ∧ L' = L ∧ R' = R) := by
    intro e he1 he2
    have k6 : wr_uI I 17 7 (nI e) 17 6 = nI a := by simp [wr_uI, h6]
    refine wv_aload_n dX4_readWord_32 rfl ?_
    refine wv_iload_n dX4_readWord_33 rfl ?_
    refine wv_putI fX4_41 dX4_readWord_34 rfl rfl rfl rfl (by first | assumption | rfl) ?_
    refine wv_aload_n dX4_readWord_37 rfl ?_
    refine wv_iload_n dX4_readWord_38 rfl ?_
    refine wv_aload_n dX4_readWord_39 rfl ?_
    refine wv_getI fX4_210 dX4_readWord_40 rfl (by first | assumption | rfl) ?_
    rw [k6]
    refine wv_isub dX4_readWord_43 ?_
    rw [pk_sub he1]
    refine wv_bipush (v := 8) dX4_readWord_44 (by decide) ?_
    refine wv_icmp_le (tgt := 53) dX4_readWord_46 (by decide) (fun h46 => ?_) (fun h46 => ?_)
    · have hc := (nI_leI (b := 8) (by omega) (by omega)).mp h46
      refine wv_iconst (v := 1) dX4_readWord_53 (by decide) ?_
      refine wv_putI fX4_47 dX4_readWord_54 rfl rfl rfl rfl (by first | assumption | rfl) ?_
      refine wv_ret (x := ()) rfl dX4_readWord_57 ?_
      refine ⟨rfl, rfl, ?_, rfl, rfl⟩
      first
      | rw [if_pos (by omega)]
      | rw [if_neg (by omega)]
    · have hc : ¬ e - a ≤ 8 := fun z => h46 (nI_le (b := 8) z (by omega))
      refine wv_iconst (v := 4) dX4_readWord_49 (by decide) ?_
      refine wv_goto (tgt := 54) dX4_readWord_50 (by decide) ?_
      refine wv_putI fX4_47 dX4_readWord_54 rfl rfl rfl rfl (by first | assumption | rfl) ?_
      refine wv_ret (x := ()) rfl dX4_readWord_57 ?_
      refine ⟨rfl, rfl, ?_, rfl, rfl⟩
      first
      | rw [if_pos (by omega)]
      | rw [if_neg (by omega)]
  have lp : ∀ (k i : Nat), i + k = 800 → a ≤ i → wr_V l 1 mX4_readWord 5 [some (.ref 17), some (.int (nI i))] [] SH I L R 0 0 (fun v s' I' L' R' => v = none ∧ s' = SH ∧ I' = wr_uI (wr_uI I 17 7 (nI (rnE cLt T k i))) 17 5 (if 8 < rnE cLt T k i - a then 4 else 1) ∧ L' = L ∧ R' = R) := by
    intro k
    induction k with
    | zero =>
      intro i hi hai
      refine wv_iload_n dX4_readWord_5 rfl ?_
      refine wv_sipush (v := 800) dX4_readWord_6 (by decide) ?_
      refine wv_icmp_ge (tgt := 32) dX4_readWord_9 (by decide) (fun h9 => ?_) (fun h9 => absurd (nI_le (a := 800) (by omega) (by omega)) h9)
      exact wv_le (by simp [wr_leq, wr_s1, wr_s2, wr_wide]) (en i hai (by omega))
    | succ k ih =>
      intro i hi hai
      refine wv_iload_n dX4_readWord_5 rfl ?_
      refine wv_sipush (v := 800) dX4_readWord_6 (by decide) ?_
      refine wv_icmp_ge (tgt := 32) dX4_readWord_9 (by decide) (fun h9 => absurd h9 (nI_ge (b := 800) (by omega) (by omega))) (fun h9 => ?_)
      refine wv_aload_n dX4_readWord_12 rfl ?_
      refine wv_getR fX4_9 dX4_readWord_13 rfl (by first | assumption | rfl) (by first | exact hR _ _ _ rfl | assumption) ?_
      refine wv_iload_n dX4_readWord_16 rfl ?_
      refine wv_v1e oX6_at kX4_213 dX4_readWord_17 (by omega) (by first | assumption | rfl) ⟨rfl, by decide⟩ (Nat.le_of_ble_eq_true rfl) (Nat.le_of_ble_eq_true rfl) (cT_at hR T _ hT) ?_
      refine wv_s1e oX4_isLetter kX4_231 dX4_readWord_20 (by omega) (Nat.le_of_ble_eq_true rfl) (Nat.le_of_ble_eq_true rfl) (cD_cLt _) ?_
      refine wv_if_eq (tgt := 32) dX4_readWord_23 (by decide) (fun h23 => ?_) (fun h23 => ?_)
      · rw [if10] at h23
        have h23 : ¬ cLt (bt T i) = true := h23
        have e : rnE cLt T (k + 1) i = i := by simp only [rnE]; rw [if_neg h23]
        rw [e]
        exact wv_le (by simp [wr_leq, wr_s1, wr_s2, wr_wide]) (en i hai (by omega))
      · rw [if10, Decidable.not_not] at h23
        have h23 : cLt (bt T i) = true := h23
        have e : rnE cLt T (k + 1) i = rnE cLt T k (i + 1) := by simp only [rnE]; rw [if_pos h23]
        rw [e]
        refine wv_iinc (v := nI (i + 1)) dX4_readWord_26 rfl (nI_1 (i)) (by decide) ?_
        refine wv_goto (tgt := 5) dX4_readWord_29 (by decide) ?_
        exact wv_le (by simp [wr_leq, wr_s1, wr_s2, wr_wide]) (ih (i + 1) (by omega) (by omega))
  refine wv_pad 1 ?_
  show wr_V l 1 mX4_readWord 0 [some (.ref 17), none] [] SH I L R 0 0 _
  refine wv_aload_n dX4_readWord_0 rfl ?_
  refine wv_getI fX4_210 dX4_readWord_1 rfl (by first | assumption | rfl) ?_
  rw [h6]
  refine wv_istore_k (i := 1) dX4_readWord_4 rfl (by decide) ?_
  exact wv_le (by simp [wr_leq, wr_s1, wr_s2, wr_wide]) (lp (800 - a) a (by omega) (Nat.le_refl _))

set_option maxHeartbeats 4000000 in
set_option maxRecDepth 100000 in
theorem cD_num {l : Launch} {I : wr_TI} {L : wr_TL} {R : wr_TR} (hR : wr_RC R) (T : TP) (a : Nat) (hT : tpV I T) (ha : a ≤ 800) (h6 : I 17 6 = nI a) : wr_E l 1 mX4_readNumber [.ref 17] SH I L R none (wr_uI (wr_uI (wr_uI I 17 8 (nmE T (800 - a) a 0)) 17 7 (nI (rnE cDg T (800 - a) a))) 17 5 (if 4 < rnE cDg T (800 - a) a - a ∨ cLt (bt T (rnE cDg T (800 - a) a)) = true then 4 else 2)) L R := by
  have en : ∀ (e : Nat) (x : Int32), a ≤ e → e ≤ 800 → wr_V l 1 mX4_readNumber 60 [some (.ref 17), some (.int (nI e))] [] SH (wr_uI I 17 8 x) L R 0 0 (fun v s' I' L' R' => v = none ∧ s' = SH ∧ I' = wr_uI (wr_uI (wr_uI I 17 8 x) 17 7 (nI e)) 17 5 (if 4 < e - a ∨ cLt (bt T e) = true then 4 else 2) ∧ L' = L ∧ R' = R) := by
    intro e x he1 he2
    have k6 : wr_uI (wr_uI I 17 8 x) 17 7 (nI e) 17 6 = nI a := by simp [wr_uI, h6]
    have hTe : tpV (wr_uI (wr_uI I 17 8 x) 17 7 (nI e)) T := tpV_fr hT (by funext d; simp [wr_uI]) (by funext d; simp [wr_uI])
    refine wv_aload_n dX4_readNumber_60 rfl ?_
    refine wv_iload_n dX4_readNumber_61 rfl ?_
    refine wv_putI fX4_41 dX4_readNumber_62 rfl rfl rfl rfl (by first | assumption | rfl) ?_
    refine wv_aload_n dX4_readNumber_65 rfl ?_
    refine wv_iload_n dX4_readNumber_66 rfl ?_
    refine wv_aload_n dX4_readNumber_67 rfl ?_
    refine wv_getI fX4_210 dX4_readNumber_68 rfl (by first | assumption | rfl) ?_
    rw [k6]
    refine wv_isub dX4_readNumber_71 ?_
    rw [pk_sub he1]
    refine wv_iconst (v := 4) dX4_readNumber_72 (by decide) ?_
    refine wv_icmp_gt (tgt := 90) dX4_readNumber_73 (by decide) (fun h73 => ?_) (fun h73 => ?_)
    · have hc : 4 < e - a := (nI_ltI (a := 4) (by omega) (by omega)).mp h73
      refine wv_iconst (v := 4) dX4_readNumber_90 (by decide) ?_
      refine wv_goto (tgt := 95) dX4_readNumber_91 (by decide) ?_
      refine wv_putI fX4_47 dX4_readNumber_95 rfl rfl rfl rfl (by first | assumption | rfl) ?_
      refine wv_ret (x := ()) rfl dX4_readNumber_98 ?_
      refine ⟨rfl, rfl, ?_, rfl, rfl⟩
      first
      | rw [if_pos (Or.inl hc)]
      | (have _ := hn7
         rw [if_neg (fun z => z.elim hc hn7)])
      | rw [if_pos (Or.inr hy7)]
    · have hc : ¬ 4 < e - a := fun z => h73 (nI_lt (a := 4) z (by omega))
      refine wv_aload_n dX4_readNumber_76 rfl ?_
      refine wv_getR fX4_9 dX4_readNumber_77 rfl (by first | assumption | rfl) (by first | exact hR _ _ _ rfl | assumption) ?_
      refine wv_iload_n dX4_readNumber_80 rfl ?_
      refine wv_v1e oX6_at kX4_213 dX4_readNumber_81 (by omega) (by first | assumption | rfl) ⟨rfl, by decide⟩ (Nat.le_of_ble_eq_true rfl) (Nat.le_of_ble_eq_true rfl) (cT_at hR T _ hTe) ?_
      refine wv_s1e oX4_isLetter kX4_231 dX4_readNumber_84 (by omega) (Nat.le_of_ble_eq_true rfl) (Nat.le_of_ble_eq_true rfl) (cD_cLt _) ?_
      refine wv_if_eq (tgt := 94) dX4_readNumber_87 (by decide) (fun h87 => ?_) (fun h87 => ?_)
      · rw [if10] at h87
        have hn7 : ¬ cLt (bt T e) = true := h87
        refine wv_iconst (v := 2) dX4_readNumber_94 (by decide) ?_
        refine wv_putI fX4_47 dX4_readNumber_95 rfl rfl rfl rfl (by first | assumption | rfl) ?_
        refine wv_ret (x := ()) rfl dX4_readNumber_98 ?_
        refine ⟨rfl, rfl, ?_, rfl, rfl⟩
        first
        | rw [if_pos (Or.inl hc)]
        | (have _ := hn7
           rw [if_neg (fun z => z.elim hc hn7)])
        | rw [if_pos (Or.inr hy7)]
      · rw [if10, Decidable.not_not] at h87
        have hy7 : cLt (bt T e) = true := h87
        refine wv_iconst (v := 4) dX4_readNumber_90 (by decide) ?_
        refine wv_goto (tgt := 95) dX4_readNumber_91 (by decide) ?_
        refine wv_putI fX4_47 dX4_readNumber_95 rfl rfl rfl rfl (by first | assumption | rfl) ?_
        refine wv_ret (x := ()) rfl dX4_readNumber_98 ?_
        refine ⟨rfl, rfl, ?_, rfl, rfl⟩
        first
        | rw [if_pos (Or.inl hc)]
        | (have _ := hn7
           rw [if_neg (fun z => z.elim hc hn7)])
        | rw [if_pos (Or.inr hy7)]
  have lp : ∀ (k i : Nat) (x : Int32), i + k = 800 → a ≤ i → wr_V l 1 mX4_readNumber 10 [some (.ref 17), some (.int (nI i))] [] SH (wr_uI I 17 8 x) L R 0 0 (fun v s' I' L' R' => v = none ∧ s' = SH ∧ I' = wr_uI (wr_uI (wr_uI I 17 8 (nmE T k i x)) 17 7 (nI (rnE cDg T k i))) 17 5 (if 4 < rnE cDg T k i - a ∨ cLt (bt T (rnE cDg T k i)) = true then 4 else 2) ∧ L' = L ∧ R' = R) := by
    intro k
    induction k with
    | zero =>
      intro i x hi hai
      refine wv_iload_n dX4_readNumber_10 rfl ?_
      refine wv_sipush (v := 800) dX4_readNumber_11 (by decide) ?_
      refine wv_icmp_ge (tgt := 60) dX4_readNumber_14 (by decide) (fun h14 => ?_) (fun h14 => absurd (nI_le (a := 800) (by omega) (by omega)) h14)
      exact wv_le (by simp [wr_leq, wr_s1, wr_s2, wr_wide]) (en i x hai (by omega))
    | succ k ih =>
      intro i x hi hai
      have hTx : tpV (wr_uI I 17 8 x) T := tpV_fr hT (by funext d; simp [wr_uI]) (by funext d; simp [wr_uI])
      have k8 : wr_uI I 17 8 x 17 8 = x := by simp [wr_uI]
      refine wv_iload_n dX4_readNumber_10 rfl ?_
      refine wv_sipush (v := 800) dX4_readNumber_11 (by decide) ?_
      refine wv_icmp_ge (tgt := 60) dX4_readNumber_14 (by decide) (fun h14 => absurd h14 (nI_ge (b := 800) (by omega) (by omega))) (fun h14 => ?_)
      refine wv_aload_n dX4_readNumber_17 rfl ?_
      refine wv_getR fX4_9 dX4_readNumber_18 rfl (by first | assumption | rfl) (by first | exact hR _ _ _ rfl | assumption) ?_
      refine wv_iload_n dX4_readNumber_21 rfl ?_
      refine wv_v1e oX6_at kX4_213 dX4_readNumber_22 (by omega) (by first | assumption | rfl) ⟨rfl, by decide⟩ (Nat.le_of_ble_eq_true rfl) (Nat.le_of_ble_eq_true rfl) (cT_at hR T _ hTx) ?_
      refine wv_s1e oX4_isDigit kX4_237 dX4_readNumber_25 (by omega) (Nat.le_of_ble_eq_true rfl) (Nat.le_of_ble_eq_true rfl) (cD_cDg _) ?_
      refine wv_if_eq (tgt := 60) dX4_readNumber_28 (by decide) (fun h28 => ?_) (fun h28 => ?_)
      · rw [if10] at h28
        have h28 : ¬ cDg (bt T i) = true := h28
        have e1 : rnE cDg T (k + 1) i = i := by simp only [rnE]; rw [if_neg h28]
        have e2 : nmE T (k + 1) i x = x := by simp only [nmE]; rw [if_neg (show ¬ cDg (bt T i) = true from h28)]
        rw [e1, e2]
        exact wv_le (by simp [wr_leq, wr_s1, wr_s2, wr_wide]) (en i x hai (by omega))
      · rw [if10, Decidable.not_not] at h28
        have h28 : cDg (bt T i) = true := h28
        have e1 : rnE cDg T (k + 1) i = rnE cDg T k (i + 1) := by simp only [rnE]; rw [if_pos h28]
        have e2 : nmE T (k + 1) i x = nmE T k (i + 1) (x * 10 + bt T i - 48) := by simp only [nmE]; rw [if_pos (show cDg (bt T i) = true from h28)]
        rw [e1, e2]
        refine wv_aload_n dX4_readNumber_31 rfl ?_
        refine wv_aload_n dX4_readNumber_32 rfl ?_
        refine wv_getI fX4_89 dX4_readNumber_33 rfl (by first | assumption | rfl) ?_
        rw [k8]
        refine wv_bipush (v := 10) dX4_readNumber_36 (by decide) ?_
        refine wv_imul dX4_readNumber_38 ?_
        refine wv_aload_n dX4_readNumber_39 rfl ?_
        refine wv_getR fX4_9 dX4_readNumber_40 rfl (by first | assumption | rfl) (by first | exact hR _ _ _ rfl | assumption) ?_
        refine wv_iload_n dX4_readNumber_43 rfl ?_
        refine wv_v1e oX6_at kX4_213 dX4_readNumber_44 (by omega) (by first | assumption | rfl) ⟨rfl, by decide⟩ (Nat.le_of_ble_eq_true rfl) (Nat.le_of_ble_eq_true rfl) (cT_at hR T _ hTx) ?_
        refine wv_iadd dX4_readNumber_47 ?_
        refine wv_bipush (v := 48) dX4_readNumber_48 (by decide) ?_
        refine wv_isub dX4_readNumber_50 ?_
        refine wv_putI fX4_89 dX4_readNumber_51 rfl rfl rfl rfl (by first | assumption | rfl) ?_
        rw [wr_uI2]
        refine wv_iinc (v := nI (i + 1)) dX4_readNumber_54 rfl (nI_1 (i)) (by decide) ?_
        refine wv_goto (tgt := 10) dX4_readNumber_57 (by decide) ?_
        exact wv_le (by simp [wr_leq, wr_s1, wr_s2, wr_wide]) (ih (i + 1) _ (by omega) (by omega))
  refine wv_pad 1 ?_
  show wr_V l 1 mX4_readNumber 0 [some (.ref 17), none] [] SH I L R 0 0 _
  refine wv_aload_n dX4_readNumber_0 rfl ?_
  refine wv_getI fX4_210 dX4_readNumber_1 rfl (by first | assumption | rfl) ?_
  rw [h6]
  refine wv_istore_k (i := 1) dX4_readNumber_4 rfl (by decide) ?_
  refine wv_aload_n dX4_readNumber_5 rfl ?_
  refine wv_iconst (v := 0) dX4_readNumber_6 (by decide) ?_
  refine wv_putI fX4_89 dX4_readNumber_7 rfl rfl rfl rfl (by first | assumption | rfl) ?_
  exact wv_le (by simp [wr_leq, wr_s1, wr_s2, wr_wide]) (lp (800 - a) a 0 (by omega) (Nat.le_refl _))

abbrev TK : Type := Nat × Nat × Nat × Int32
/-- the token from p on: its kind, where it starts and ends, its number -/
def tkA (T : TP) (a : Nat) : TK :=
  if bt T a = -1 then (0, a, a, 0)
  else if cLt (bt T a) = true then (if 8 < rnE cLt T (800 - a) a - a then 4 else 1, a, rnE cLt T (800 - a) a, 0)
  else if cDg (bt T a) = true then (if 4 < rnE cDg T (800 - a) a - a ∨ cLt (bt T (rnE cDg T (800 - a) a)) = true then 4 else 2, a, rnE cDg T (800 - a) a, nmE T (800 - a) a 0)
  else (if cSg (bt T a) = true then 3 else 4, a, a + 1, 0)
def tkS (T : TP) (p : Nat) : TK := tkA T (rnE cB T (800 - p) p)
/-- the reader's token fields -/
def tkV (I : wr_TI) (k : TK) : Prop := I 17 5 = nI k.1 ∧ I 17 6 = nI k.2.1 ∧ I 17 7 = nI k.2.2.1 ∧ (k.1 = 2 → I 17 8 = k.2.2.2)
def frK (I I' : wr_TI) : Prop := (∀ b, b ≠ 17 → I' b = I b) ∧ ∀ k, k ≠ 5 → k ≠ 6 → k ≠ 7 → k ≠ 8 → I' 17 k = I 17 k
set_option maxHeartbeats 4000000 in
set_option maxRecDepth 100000 in
theorem cD_step {l : Launch} {I : wr_TI} {L : wr_TL} {R : wr_TR} (hR : wr_RC R) (T : TP) (p : Nat) (hT : tpV I T) (hp : p ≤ 800) (h7 : I 17 7 = nI p) : wr_P l 2 mX4_step [.ref 17] SH I L R (fun v s' I' L' R' => v = none ∧ s' = SH ∧ L' = L ∧ R' = R ∧ tkV I' (tkS T p) ∧ frK I I') := by
  have en : ∀ a, a = rnE cB T (800 - p) p → a ≤ 800 → wr_V l 2 mX4_step 32 [some (.ref 17), some (.int (nI a)), none] [] SH I L R 0 0 (fun v s' I' L' R' => v = none ∧ s' = SH ∧ L' = L ∧ R' = R ∧ tkV I' (tkS T p) ∧ frK I I') := by
    intro a ea ha
    have hTa : tpV (wr_uI I 17 6 (nI a)) T := tpV_fr hT (by funext d; simp [wr_uI]) (by funext d; simp [wr_uI])
    have k6 : wr_uI I 17 6 (nI a) 17 6 = nI a := by simp [wr_uI]
    refine wv_aload_n dX4_step_32 rfl ?_
    refine wv_iload_n dX4_step_33 rfl ?_
    refine wv_putI fX4_210 dX4_step_34 rfl rfl rfl rfl (by first | assumption | rfl) ?_
    refine wv_aload_n dX4_step_37 rfl ?_
    refine wv_getR fX4_9 dX4_step_38 rfl (by first | assumption | rfl) (by first | exact hR _ _ _ rfl | assumption) ?_
    refine wv_iload_n dX4_step_41 rfl ?_
    refine wv_v1e oX6_at kX4_213 dX4_step_42 (by omega) (by first | assumption | rfl) ⟨rfl, by decide⟩ (Nat.le_of_ble_eq_true rfl) (Nat.le_of_ble_eq_true rfl) (cT_at hR T _ hTa) ?_
    refine wv_istore_k (i := 2) dX4_step_45 rfl (by decide) ?_
    refine wv_iload_n dX4_step_46 rfl ?_
    refine wv_iconst (v := (-1)) dX4_step_47 (by decide) ?_
    refine wv_icmp_ne (tgt := 64) dX4_step_48 (by decide) (fun h48 => ?_) (fun h48 => ?_)
    · have h48 : ¬ bt T a = -1 := h48
      refine wv_iload_n dX4_step_64 rfl ?_
      refine wv_s1e oX4_isLetter kX4_231 dX4_step_65 (by omega) (Nat.le_of_ble_eq_true rfl) (Nat.le_of_ble_eq_true rfl) (cD_cLt _) ?_
      refine wv_if_eq (tgt := 78) dX4_step_68 (by decide) (fun h68 => ?_) (fun h68 => ?_)
      · rw [if10] at h68
        have h68 : ¬ cLt (bt T a) = true := h68
        refine wv_iload_n dX4_step_78 rfl ?_
        refine wv_s1e oX4_isDigit kX4_237 dX4_step_79 (by omega) (Nat.le_of_ble_eq_true rfl) (Nat.le_of_ble_eq_true rfl) (cD_cDg _) ?_
        refine wv_if_eq (tgt := 92) dX4_step_82 (by decide) (fun h82 => ?_) (fun h82 => ?_)
        · rw [if10] at h82
          have h82 : ¬ cDg (bt T a) = true := h82
          refine wv_aload_n dX4_step_92 rfl ?_
          refine wv_iload_n dX4_step_93 rfl ?_
          refine wv_s1e oX4_isOneOfTheSigns kX4_243 dX4_step_94 (by omega) (Nat.le_of_ble_eq_true rfl) (Nat.le_of_ble_eq_true rfl) (cD_cSg _) ?_
          refine wv_if_eq (tgt := 104) dX4_step_97 (by decide) (fun h97 => ?_) (fun h97 => ?_)
          · rw [if10] at h97
            have h97 : ¬ cSg (bt T a) = true := h97
            refine wv_iconst (v := 4) dX4_step_104 (by decide) ?_
            refine wv_putI fX4_47 dX4_step_105 rfl rfl rfl rfl (by first | assumption | rfl) ?_
            refine wv_aload_n dX4_step_108 rfl ?_
            refine wv_iload_n dX4_step_109 rfl ?_
            refine wv_iconst (v := 1) dX4_step_110 (by decide) ?_
            refine wv_iadd dX4_step_111 ?_
            refine wv_putI fX4_41 dX4_step_112 rfl rfl rfl rfl (by first | assumption | rfl) ?_
            refine wv_ret (x := ()) rfl dX4_step_115 ?_
            refine ⟨rfl, rfl, rfl, rfl, ?_, fun b hb => by funext d; simp [wr_uI, hb], fun k h5 h6 h7 h8 => by simp [wr_uI, h5, h6, h7, h8]⟩
            rw [show tkS T p = tkA T a by unfold tkS; rw [← ea]]
            unfold tkA
            first
            | rw [if_pos h48]
            | (rw [if_neg h48]
               first
               | rw [if_pos h68]
               | (rw [if_neg h68]
                  first
                  | rw [if_pos h82]
                  | (rw [if_neg h82]
                     first
                     | rw [if_pos h97]
                     | rw [if_neg h97])))
            refine ⟨?_, ?_, ?_, ?_⟩ <;> first | (simp [wr_uI]; done) | (simp [wr_uI]; exact nI_1 a) | (simp [wr_uI]; rfl) | (simp [wr_uI]; split <;> rfl) | (intro h; exfalso; revert h; split <;> simp)
          · rw [if10, Decidable.not_not] at h97
            have h97 : cSg (bt T a) = true := h97
            refine wv_iconst (v := 3) dX4_step_100 (by decide) ?_
            refine wv_goto (tgt := 105) dX4_step_101 (by decide) ?_
            refine wv_putI fX4_47 dX4_step_105 rfl rfl rfl rfl (by first | assumption | rfl) ?_
            refine wv_aload_n dX4_step_108 rfl ?_
            refine wv_iload_n dX4_step_109 rfl ?_
            refine wv_iconst (v := 1) dX4_step_110 (by decide) ?_
            refine wv_iadd dX4_step_111 ?_
            refine wv_putI fX4_41 dX4_step_112 rfl rfl rfl rfl (by first | assumption | rfl) ?_
            refine wv_ret (x := ()) rfl dX4_step_115 ?_
            refine ⟨rfl, rfl, rfl, rfl, ?_, fun b hb => by funext d; simp [wr_uI, hb], fun k h5 h6 h7 h8 => by simp [wr_uI, h5, h6, h7, h8]⟩
            rw [show tkS T p = tkA T a by unfold tkS; rw [← ea]]
            unfold tkA
            first
            | rw [if_pos h48]
            | (rw [if_neg h48]
               first
               | rw [if_pos h68]
               | (rw [if_neg h68]
                  first
                  | rw [if_pos h82]
                  | (rw [if_neg h82]
                     first
                     | rw [if_pos h97]
                     | rw [if_neg h97])))
            refine ⟨?_, ?_, ?_, ?_⟩ <;> first | (simp [wr_uI]; done) | (simp [wr_uI]; exact nI_1 a) | (simp [wr_uI]; rfl) | (simp [wr_uI]; split <;> rfl) | (intro h; exfalso; revert h; split <;> simp)
        · rw [if10, Decidable.not_not] at h82
          have h82 : cDg (bt T a) = true := h82
          refine wv_aload_n dX4_step_85 rfl ?_
          refine wv_v0u oX4_readNumber kX4_240 dX4_step_86 (by omega) (by first | assumption | rfl) ⟨rfl, by decide⟩ (Nat.le_of_ble_eq_true rfl) (Nat.le_of_ble_eq_true rfl) (cD_num hR T a hTa ha k6) ?_
          refine wv_goto (tgt := 115) dX4_step_89 (by decide) ?_
          refine wv_ret (x := ()) rfl dX4_step_115 ?_
          refine ⟨rfl, rfl, rfl, rfl, ?_, fun b hb => by funext d; simp [wr_uI, hb], fun k h5 h6 h7 h8 => by simp [wr_uI, h5, h6, h7, h8]⟩
          rw [show tkS T p = tkA T a by unfold tkS; rw [← ea]]
          unfold tkA
          first
          | rw [if_pos h48]
          | (rw [if_neg h48]
             first
             | rw [if_pos h68]
             | (rw [if_neg h68]
                first
                | rw [if_pos h82]
                | (rw [if_neg h82]
                   first
                   | rw [if_pos h97]
                   | rw [if_neg h97])))
          refine ⟨?_, ?_, ?_, ?_⟩ <;> first | (simp [wr_uI]; done) | (simp [wr_uI]; exact nI_1 a) | (simp [wr_uI]; rfl) | (simp [wr_uI]; split <;> rfl) | (intro h; exfalso; revert h; split <;> simp)
      · rw [if10, Decidable.not_not] at h68
        have h68 : cLt (bt T a) = true := h68
        refine wv_aload_n dX4_step_71 rfl ?_
        refine wv_v0u oX4_readWord kX4_234 dX4_step_72 (by omega) (by first | assumption | rfl) ⟨rfl, by decide⟩ (Nat.le_of_ble_eq_true rfl) (Nat.le_of_ble_eq_true rfl) (cD_word hR T a hTa ha k6) ?_
        refine wv_goto (tgt := 115) dX4_step_75 (by decide) ?_
        refine wv_ret (x := ()) rfl dX4_step_115 ?_
        refine ⟨rfl, rfl, rfl, rfl, ?_, fun b hb => by funext d; simp [wr_uI, hb], fun k h5 h6 h7 h8 => by simp [wr_uI, h5, h6, h7, h8]⟩
        rw [show tkS T p = tkA T a by unfold tkS; rw [← ea]]
        unfold tkA
        first
        | rw [if_pos h48]
        | (rw [if_neg h48]
           first
           | rw [if_pos h68]
           | (rw [if_neg h68]
              first
              | rw [if_pos h82]
              | (rw [if_neg h82]
                 first
                 | rw [if_pos h97]
                 | rw [if_neg h97])))
        refine ⟨?_, ?_, ?_, ?_⟩ <;> first | (simp [wr_uI]; done) | (simp [wr_uI]; exact nI_1 a) | (simp [wr_uI]; rfl) | (simp [wr_uI]; split <;> rfl) | (intro h; exfalso; revert h; split <;> simp)
    · have h48 : bt T a = -1 := h48
      refine wv_aload_n dX4_step_51 rfl ?_
      refine wv_iconst (v := 0) dX4_step_52 (by decide) ?_
      refine wv_putI fX4_47 dX4_step_53 rfl rfl rfl rfl (by first | assumption | rfl) ?_
      refine wv_aload_n dX4_step_56 rfl ?_
      refine wv_iload_n dX4_step_57 rfl ?_
      refine wv_putI fX4_41 dX4_step_58 rfl rfl rfl rfl (by first | assumption | rfl) ?_
      refine wv_goto (tgt := 115) dX4_step_61 (by decide) ?_
      refine wv_ret (x := ()) rfl dX4_step_115 ?_
      refine ⟨rfl, rfl, rfl, rfl, ?_, fun b hb => by funext d; simp [wr_uI, hb], fun k h5 h6 h7 h8 => by simp [wr_uI, h5, h6, h7, h8]⟩
      rw [show tkS T p = tkA T a by unfold tkS; rw [← ea]]
      unfold tkA
      first
      | rw [if_pos h48]
      | (rw [if_neg h48]
         first
         | rw [if_pos h68]
         | (rw [if_neg h68]
            first
            | rw [if_pos h82]
            | (rw [if_neg h82]
               first
               | rw [if_pos h97]
               | rw [if_neg h97])))
      refine ⟨?_, ?_, ?_, ?_⟩ <;> first | (simp [wr_uI]; done) | (simp [wr_uI]; exact nI_1 a) | (simp [wr_uI]; rfl) | (simp [wr_uI]; split <;> rfl) | (intro h; exfalso; revert h; split <;> simp)
  have lp : ∀ (k i : Nat), i + k = 800 → rnE cB T k i = rnE cB T (800 - p) p → wr_V l 2 mX4_step 5 [some (.ref 17), some (.int (nI i)), none] [] SH I L R 0 0 (fun v s' I' L' R' => v = none ∧ s' = SH ∧ L' = L ∧ R' = R ∧ tkV I' (tkS T p) ∧ frK I I') := by
    intro k
    induction k with
    | zero =>
      intro i hi he
      refine wv_iload_n dX4_step_5 rfl ?_
      refine wv_sipush (v := 800) dX4_step_6 (by decide) ?_
      refine wv_icmp_ge (tgt := 32) dX4_step_9 (by decide) (fun h9 => ?_) (fun h9 => absurd (nI_le (a := 800) (by omega) (by omega)) h9)
      exact wv_le (by simp [wr_leq, wr_s1, wr_s2, wr_wide]) (en i he (by omega))
    | succ k ih =>
      intro i hi he
      refine wv_iload_n dX4_step_5 rfl ?_
      refine wv_sipush (v := 800) dX4_step_6 (by decide) ?_
      refine wv_icmp_ge (tgt := 32) dX4_step_9 (by decide) (fun h9 => absurd h9 (nI_ge (b := 800) (by omega) (by omega))) (fun h9 => ?_)
      refine wv_aload_n dX4_step_12 rfl ?_
      refine wv_getR fX4_9 dX4_step_13 rfl (by first | assumption | rfl) (by first | exact hR _ _ _ rfl | assumption) ?_
      refine wv_iload_n dX4_step_16 rfl ?_
      refine wv_v1e oX6_at kX4_213 dX4_step_17 (by omega) (by first | assumption | rfl) ⟨rfl, by decide⟩ (Nat.le_of_ble_eq_true rfl) (Nat.le_of_ble_eq_true rfl) (cT_at hR T _ hT) ?_
      refine wv_s1e oX4_isBlank kX4_228 dX4_step_20 (by omega) (Nat.le_of_ble_eq_true rfl) (Nat.le_of_ble_eq_true rfl) (cD_cB _) ?_
      refine wv_if_eq (tgt := 32) dX4_step_23 (by decide) (fun h23 => ?_) (fun h23 => ?_)
      · rw [if10] at h23
        have h23 : ¬ cB (bt T i) = true := h23
        have e : rnE cB T (k + 1) i = i := by simp only [rnE]; rw [if_neg h23]
        rw [e] at he
        exact wv_le (by simp [wr_leq, wr_s1, wr_s2, wr_wide]) (en i he (by omega))
      · rw [if10, Decidable.not_not] at h23
        have h23 : cB (bt T i) = true := h23
        have e : rnE cB T (k + 1) i = rnE cB T k (i + 1) := by simp only [rnE]; rw [if_pos h23]
        rw [e] at he
        refine wv_iinc (v := nI (i + 1)) dX4_step_26 rfl (nI_1 (i)) (by decide) ?_
        refine wv_goto (tgt := 5) dX4_step_29 (by decide) ?_
        exact wv_le (by simp [wr_leq, wr_s1, wr_s2, wr_wide]) (ih (i + 1) (by omega) he)
  refine wv_pad 2 ?_
  show wr_V l 2 mX4_step 0 [some (.ref 17), none, none] [] SH I L R 0 0 _
  refine wv_aload_n dX4_step_0 rfl ?_
  refine wv_getI fX4_41 dX4_step_1 rfl (by first | assumption | rfl) ?_
  rw [h7]
  refine wv_istore_k (i := 1) dX4_step_4 rfl (by decide) ?_
  exact wv_le (by simp [wr_leq, wr_s1, wr_s2, wr_wide]) (lp (800 - p) p (by omega) rfl)

