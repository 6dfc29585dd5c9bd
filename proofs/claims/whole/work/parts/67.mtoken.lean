/-! the model: tokens -/
def mpV (I : wr_TI) (T : TP) : Prop := I 55 5 = nI T.1 ∧ T.1 ≤ 800 ∧ (∀ i, i < T.1 → I 56 i = T.2 i) ∧ ∀ i, i < T.1 → 0 ≤ T.2 i
theorem bt_e {T : TP} {i : Nat} (hT : T.1 ≤ 800) (hi : i < 2 ^ 31) : bt T i = if i < T.1 then T.2 i else -1 := by
  unfold bt tpG
  by_cases h : i < T.1
  · rw [if_pos ⟨nI_pos' hi, nI_lt h (by omega)⟩, if_pos h, tN_nI hi]
  · rw [if_neg (fun q => h ((nI_ltI hi (by omega)).mp q.2)), if_neg h]
def enc (d : Nat → Nat) : Nat → Nat
  | 0 => 0
  | n + 1 => enc d n * 256 + d n
theorem enc_inj {d e : Nat → Nat} : ∀ n m, (∀ j, j < n → 1 ≤ d j ∧ d j < 256) → (∀ j, j < m → 1 ≤ e j ∧ e j < 256) → enc d n = enc e m → n = m ∧ ∀ j, j < n → d j = e j := by
  intro n
  induction n with
  | zero =>
    intro m _ he h
    cases m with
    | zero => exact ⟨rfl, fun j hj => by omega⟩
    | succ m => simp only [enc] at h; have := he m (by omega); omega
  | succ n ih =>
    intro m hd he h
    cases m with
    | zero => simp only [enc] at h; have := hd n (by omega); omega
    | succ m =>
      simp only [enc] at h
      have h1 := hd n (by omega)
      have h2 := he m (by omega)
      obtain ⟨rfl, h4⟩ := ih m (fun j hj => hd j (by omega)) (fun j hj => he j (by omega)) (by omega)
      refine ⟨rfl, fun j hj => ?_⟩
      by_cases hjn : j = n
      · subst hjn; omega
      · exact h4 j (by omega)
theorem enc_c {d e : Nat → Nat} : ∀ n, (∀ j, j < n → d j = e j) → enc d n = enc e n := by
  intro n
  induction n with
  | zero => intro _; rfl
  | succ n ih => intro h; simp only [enc]; rw [ih (fun j hj => h j (by omega)), h n (by omega)]
theorem enc_lt {d : Nat → Nat} : ∀ n, (∀ j, j < n → d j < 256) → enc d n < 256 ^ n := by
  intro n
  induction n with
  | zero => intro _; simp [enc]
  | succ n ih =>
    intro h
    have h1 := ih (fun j hj => h j (by omega))
    have h2 := h n (by omega)
    simp only [enc]
    rw [Nat.pow_succ]
    omega
theorem lb_lN (n : Nat) {i : Nat} (hi : i < 64) : lb (lN n) i = n.testBit i := by
  unfold lb
  show (Int64.ofNat n).toBitVec.getLsbD i = _
  rw [Int64.toBitVec_ofNat', BitVec.getLsbD_ofNat]
  simp [hi]
theorem lN_sh (e b : Nat) (hb : b < 256) : lN e <<< ((8 : Int32).toInt64 &&& 63) ||| lN b = lN (e * 256 + b) := by
  apply lb_ext
  intro i hi
  rw [lb_or, show (8 : Int32) = nI 8 from rfl, lb_shl 8 (by omega) _ hi, lb_lN _ hi, lb_lN _ hi, show e * 256 + b = 2 ^ 8 * e + b by omega, Nat.testBit_two_pow_mul_add _ (by omega)]
  by_cases h8 : i < 8
  · have : ¬ 8 ≤ i := by omega
    simp [h8, this]
  · have h9 : 8 ≤ i := by omega
    rw [lb_lN _ (by omega)]
    have hz : b.testBit i = false := Nat.testBit_lt_two_pow (Nat.lt_of_lt_of_le hb (Nat.pow_le_pow_right (by omega) h9 : 2 ^ 8 ≤ 2 ^ i))
    simp [h8, h9, hz]
/-- a byte of the tape as a number; the letters from a on -/
def bn (T : TP) (a j : Nat) : Nat := tN (bt T (a + j))
theorem lt_bn {T : TP} {a j : Nat} (h : cLt (bt T (a + j)) = true) : bt T (a + j) = nI (bn T a j) ∧ 97 ≤ bn T a j ∧ bn T a j ≤ 122 := by
  unfold cLt at h
  rw [decide_eq_true_iff] at h
  obtain ⟨n, hn, hx⟩ := nI_of2 (M := 122) (n := 122) (x := bt T (a + j)) rfl (fun z => by have := h.1; grind) h.2
  unfold bn
  rw [hx] at h ⊢
  rw [tN_nI (by omega)]
  exact ⟨rfl, (nI_leI (a := 97) (by omega) (by omega)).mp h.1, hn⟩
/-- how many from a on -/
theorem rnE_all {p : Int32 → Bool} {T : TP} : ∀ k i j, i ≤ j → j < rnE p T k i → p (bt T j) = true := by
  intro k
  induction k with
  | zero => intro i j h1 h2; simp only [rnE] at h2; omega
  | succ k ih =>
    intro i j h1 h2
    simp only [rnE] at h2
    by_cases hp : p (bt T i) = true
    · rw [if_pos hp] at h2
      by_cases hji : j = i
      · subst hji; exact hp
      · exact ih (i + 1) j (by omega) h2
    · rw [if_neg hp] at h2; omega
theorem rnE_end {p : Int32 → Bool} {T : TP} (hT : T.1 ≤ 800) (hp : p (-1) = false) : ∀ k i, i + k = 800 → p (bt T (rnE p T k i)) = false := by
  intro k
  induction k with
  | zero =>
    intro i h
    simp only [rnE]
    rw [bt_e hT (by omega), if_neg (by omega)]
    exact hp
  | succ k ih =>
    intro i h
    simp only [rnE]
    by_cases hq : p (bt T i) = true
    · rw [if_pos hq]; exact ih (i + 1) (by omega)
    · rw [if_neg hq]; simpa using hq
def nf (T : TP) (a : Nat) : Nat → Int32
  | 0 => 0
  | i + 1 => nf T a i * 10 + bt T (a + i) - 48
theorem nmE_nf {T : TP} {a : Nat} : ∀ k i, nmE T k (a + i) (nf T a i) = nf T a (rnE cDg T k (a + i) - a) := by
  intro k
  induction k with
  | zero => intro i; simp only [nmE, rnE]; congr 1; omega
  | succ k ih =>
    intro i
    simp only [nmE, rnE]
    by_cases hp : cDg (bt T (a + i)) = true
    · rw [if_pos hp, if_pos hp]; exact ih (i + 1)
    · rw [if_neg hp, if_neg hp]; congr 1; omega
set_option maxHeartbeats 4000000 in
set_option maxRecDepth 100000 in
theorem x_here {l : Launch} {I : wr_TI} {L : wr_TL} {R : wr_TR} (hR : wr_RC R) (T : TP) (hT : mpV I T) (p k : Nat) (hp : I 55 4 = nI p) (hpk : p + k < 2 ^ 31) : wr_E l 0 mX8_here [.ref 55, .int (nI k)] SH I L R (some (.int (bt T (p + k)))) I L R := by
  obtain ⟨t1, t2, t3, t4⟩ := hT
  refine wv_pad 0 ?_
  show wr_V l 0 mX8_here 0 [some (.ref 55), some (.int (nI k))] [] SH I L R 0 0 _
  refine wv_aload_n dX8_here_0 rfl ?_
  refine wv_getI fX8_167 dX8_here_1 rfl (by first | assumption | rfl) ?_
  refine wv_iload_n dX8_here_4 rfl ?_
  refine wv_iadd dX8_here_5 ?_
  refine wv_aload_n dX8_here_6 rfl ?_
  refine wv_getI fX8_170 dX8_here_7 rfl (by first | assumption | rfl) ?_
  rw [hp, nI_add, t1]
  refine wv_icmp_ge (tgt := 27) dX8_here_10 (by decide) (fun h10 => ?_) (fun h10 => ?_)
  · have hge : ¬ p + k < T.1 := fun z => absurd h10 (nI_ge z (by omega))
    refine wv_iconst (v := (-1)) dX8_here_27 (by decide) ?_
    refine wv_iret rfl dX8_here_28 ?_
    refine ⟨?_, rfl, rfl, rfl, rfl⟩
    rw [bt_e t2 hpk]
    first | (have _ := hlt; rw [if_pos hlt, t3 _ hlt]) | rw [if_neg hge]
  · have hlt : p + k < T.1 := Nat.lt_of_not_le (fun z => h10 (nI_le z (by omega)))
    have h800 : p + k < 800 := by omega
    refine wv_aload_n dX8_here_13 rfl ?_
    refine wv_getR fX8_7 dX8_here_14 rfl (by first | assumption | rfl) (by first | exact hR _ _ _ rfl | assumption) ?_
    refine wv_aload_n dX8_here_17 rfl ?_
    refine wv_getI fX8_167 dX8_here_18 rfl (by first | assumption | rfl) ?_
    refine wv_iload_n dX8_here_21 rfl ?_
    refine wv_iadd dX8_here_22 ?_
    rw [hp, nI_add]
    refine wv_ialdN dX8_here_23 (by first | assumption | rfl) h800 (by decide) ?_
    refine wv_goto (tgt := 28) dX8_here_24 (by decide) ?_
    refine wv_iret rfl dX8_here_28 ?_
    refine ⟨?_, rfl, rfl, rfl, rfl⟩
    rw [bt_e t2 hpk]
    first | (have _ := hlt; rw [if_pos hlt, t3 _ hlt]) | rw [if_neg hge]

set_option maxHeartbeats 4000000 in
set_option maxRecDepth 100000 in
theorem x_isLetter {l : Launch} {I : wr_TI} {L : wr_TL} {R : wr_TR} (c : Int32) : wr_E l 0 mX8_isLetter [.int c] SH I L R (some (.int (if cLt c = true then 1 else 0))) I L R := by
  refine wv_pad 0 ?_
  show wr_V l 0 mX8_isLetter 0 [some (.int c)] [] SH I L R 0 0 _
  refine wv_iload_n dX8_isLetter_0 rfl ?_
  refine wv_bipush (v := 97) dX8_isLetter_1 (by decide) ?_
  refine wv_icmp_lt (tgt := 16) dX8_isLetter_3 (by decide) (fun h3 => ?_) (fun h3 => ?_)
  · refine wv_iconst (v := 0) dX8_isLetter_16 (by decide) ?_
    refine wv_zret rfl rfl dX8_isLetter_17 ?_
    refine ⟨?_, rfl, rfl, rfl, rfl⟩
    unfold cLt
    first
      | (rw [if_pos (by rw [decide_eq_true_iff]; grind)]; done)
      | (rw [if_neg (by rw [decide_eq_true_iff]; grind)]; done)
  · refine wv_iload_n dX8_isLetter_6 rfl ?_
    refine wv_bipush (v := 122) dX8_isLetter_7 (by decide) ?_
    refine wv_icmp_gt (tgt := 16) dX8_isLetter_9 (by decide) (fun h9 => ?_) (fun h9 => ?_)
    · refine wv_iconst (v := 0) dX8_isLetter_16 (by decide) ?_
      refine wv_zret rfl rfl dX8_isLetter_17 ?_
      refine ⟨?_, rfl, rfl, rfl, rfl⟩
      unfold cLt
      first
        | (rw [if_pos (by rw [decide_eq_true_iff]; grind)]; done)
        | (rw [if_neg (by rw [decide_eq_true_iff]; grind)]; done)
    · refine wv_iconst (v := 1) dX8_isLetter_12 (by decide) ?_
      refine wv_goto (tgt := 17) dX8_isLetter_13 (by decide) ?_
      refine wv_zret rfl rfl dX8_isLetter_17 ?_
      refine ⟨?_, rfl, rfl, rfl, rfl⟩
      unfold cLt
      first
        | (rw [if_pos (by rw [decide_eq_true_iff]; grind)]; done)
        | (rw [if_neg (by rw [decide_eq_true_iff]; grind)]; done)

set_option maxHeartbeats 4000000 in
set_option maxRecDepth 100000 in
theorem x_isDigit {l : Launch} {I : wr_TI} {L : wr_TL} {R : wr_TR} (c : Int32) : wr_E l 0 mX8_isDigit [.int c] SH I L R (some (.int (if cDg c = true then 1 else 0))) I L R := by
  refine wv_pad 0 ?_
  show wr_V l 0 mX8_isDigit 0 [some (.int c)] [] SH I L R 0 0 _
  refine wv_iload_n dX8_isDigit_0 rfl ?_
  refine wv_bipush (v := 48) dX8_isDigit_1 (by decide) ?_
  refine wv_icmp_lt (tgt := 16) dX8_isDigit_3 (by decide) (fun h3 => ?_) (fun h3 => ?_)
  · refine wv_iconst (v := 0) dX8_isDigit_16 (by decide) ?_
    refine wv_zret rfl rfl dX8_isDigit_17 ?_
    refine ⟨?_, rfl, rfl, rfl, rfl⟩
    unfold cDg
    first
      | (rw [if_pos (by rw [decide_eq_true_iff]; grind)]; done)
      | (rw [if_neg (by rw [decide_eq_true_iff]; grind)]; done)
  · refine wv_iload_n dX8_isDigit_6 rfl ?_
    refine wv_bipush (v := 57) dX8_isDigit_7 (by decide) ?_
    refine wv_icmp_gt (tgt := 16) dX8_isDigit_9 (by decide) (fun h9 => ?_) (fun h9 => ?_)
    · refine wv_iconst (v := 0) dX8_isDigit_16 (by decide) ?_
      refine wv_zret rfl rfl dX8_isDigit_17 ?_
      refine ⟨?_, rfl, rfl, rfl, rfl⟩
      unfold cDg
      first
        | (rw [if_pos (by rw [decide_eq_true_iff]; grind)]; done)
        | (rw [if_neg (by rw [decide_eq_true_iff]; grind)]; done)
    · refine wv_iconst (v := 1) dX8_isDigit_12 (by decide) ?_
      refine wv_goto (tgt := 17) dX8_isDigit_13 (by decide) ?_
      refine wv_zret rfl rfl dX8_isDigit_17 ?_
      refine ⟨?_, rfl, rfl, rfl, rfl⟩
      unfold cDg
      first
        | (rw [if_pos (by rw [decide_eq_true_iff]; grind)]; done)
        | (rw [if_neg (by rw [decide_eq_true_iff]; grind)]; done)

set_option maxHeartbeats 4000000 in
set_option maxRecDepth 100000 in
theorem x_isSign {l : Launch} {I : wr_TI} {L : wr_TL} {R : wr_TR} (c : Int32) : wr_E l 0 mX8_isSign [.int c] SH I L R (some (.int (if cSg c = true then 1 else 0))) I L R := by
  refine wv_pad 0 ?_
  show wr_V l 0 mX8_isSign 0 [some (.int c)] [] SH I L R 0 0 _
  refine wv_iload_n dX8_isSign_0 rfl ?_
  refine wv_bipush (v := 59) dX8_isSign_1 (by decide) ?_
  refine wv_icmp_eq (tgt := 54) dX8_isSign_3 (by decide) (fun h3 => ?_) (fun h3 => ?_)
  · refine wv_iconst (v := 1) dX8_isSign_54 (by decide) ?_
    refine wv_goto (tgt := 59) dX8_isSign_55 (by decide) ?_
    refine wv_zret rfl rfl dX8_isSign_59 ?_
    refine ⟨?_, rfl, rfl, rfl, rfl⟩
    unfold cSg
    first
      | (rw [if_pos (by rw [decide_eq_true_iff]; grind)]; done)
      | (rw [if_neg (by rw [decide_eq_true_iff]; grind)]; done)
  · refine wv_iload_n dX8_isSign_6 rfl ?_
    refine wv_bipush (v := 40) dX8_isSign_7 (by decide) ?_
    refine wv_icmp_eq (tgt := 54) dX8_isSign_9 (by decide) (fun h9 => ?_) (fun h9 => ?_)
    · refine wv_iconst (v := 1) dX8_isSign_54 (by decide) ?_
      refine wv_goto (tgt := 59) dX8_isSign_55 (by decide) ?_
      refine wv_zret rfl rfl dX8_isSign_59 ?_
      refine ⟨?_, rfl, rfl, rfl, rfl⟩
      unfold cSg
      first
        | (rw [if_pos (by rw [decide_eq_true_iff]; grind)]; done)
        | (rw [if_neg (by rw [decide_eq_true_iff]; grind)]; done)
    · refine wv_iload_n dX8_isSign_12 rfl ?_
      refine wv_bipush (v := 41) dX8_isSign_13 (by decide) ?_
      refine wv_icmp_eq (tgt := 54) dX8_isSign_15 (by decide) (fun h15 => ?_) (fun h15 => ?_)
      · refine wv_iconst (v := 1) dX8_isSign_54 (by decide) ?_
        refine wv_goto (tgt := 59) dX8_isSign_55 (by decide) ?_
        refine wv_zret rfl rfl dX8_isSign_59 ?_
        refine ⟨?_, rfl, rfl, rfl, rfl⟩
        unfold cSg
        first
          | (rw [if_pos (by rw [decide_eq_true_iff]; grind)]; done)
          | (rw [if_neg (by rw [decide_eq_true_iff]; grind)]; done)
      · refine wv_iload_n dX8_isSign_18 rfl ?_
        refine wv_bipush (v := 60) dX8_isSign_19 (by decide) ?_
        refine wv_icmp_eq (tgt := 54) dX8_isSign_21 (by decide) (fun h21 => ?_) (fun h21 => ?_)
        · refine wv_iconst (v := 1) dX8_isSign_54 (by decide) ?_
          refine wv_goto (tgt := 59) dX8_isSign_55 (by decide) ?_
          refine wv_zret rfl rfl dX8_isSign_59 ?_
          refine ⟨?_, rfl, rfl, rfl, rfl⟩
          unfold cSg
          first
            | (rw [if_pos (by rw [decide_eq_true_iff]; grind)]; done)
            | (rw [if_neg (by rw [decide_eq_true_iff]; grind)]; done)
        · refine wv_iload_n dX8_isSign_24 rfl ?_
          refine wv_bipush (v := 62) dX8_isSign_25 (by decide) ?_
          refine wv_icmp_eq (tgt := 54) dX8_isSign_27 (by decide) (fun h27 => ?_) (fun h27 => ?_)
          · refine wv_iconst (v := 1) dX8_isSign_54 (by decide) ?_
            refine wv_goto (tgt := 59) dX8_isSign_55 (by decide) ?_
            refine wv_zret rfl rfl dX8_isSign_59 ?_
            refine ⟨?_, rfl, rfl, rfl, rfl⟩
            unfold cSg
            first
              | (rw [if_pos (by rw [decide_eq_true_iff]; grind)]; done)
              | (rw [if_neg (by rw [decide_eq_true_iff]; grind)]; done)
          · refine wv_iload_n dX8_isSign_30 rfl ?_
            refine wv_bipush (v := 61) dX8_isSign_31 (by decide) ?_
            refine wv_icmp_eq (tgt := 54) dX8_isSign_33 (by decide) (fun h33 => ?_) (fun h33 => ?_)
            · refine wv_iconst (v := 1) dX8_isSign_54 (by decide) ?_
              refine wv_goto (tgt := 59) dX8_isSign_55 (by decide) ?_
              refine wv_zret rfl rfl dX8_isSign_59 ?_
              refine ⟨?_, rfl, rfl, rfl, rfl⟩
              unfold cSg
              first
                | (rw [if_pos (by rw [decide_eq_true_iff]; grind)]; done)
                | (rw [if_neg (by rw [decide_eq_true_iff]; grind)]; done)
            · refine wv_iload_n dX8_isSign_36 rfl ?_
              refine wv_bipush (v := 43) dX8_isSign_37 (by decide) ?_
              refine wv_icmp_eq (tgt := 54) dX8_isSign_39 (by decide) (fun h39 => ?_) (fun h39 => ?_)
              · refine wv_iconst (v := 1) dX8_isSign_54 (by decide) ?_
                refine wv_goto (tgt := 59) dX8_isSign_55 (by decide) ?_
                refine wv_zret rfl rfl dX8_isSign_59 ?_
                refine ⟨?_, rfl, rfl, rfl, rfl⟩
                unfold cSg
                first
                  | (rw [if_pos (by rw [decide_eq_true_iff]; grind)]; done)
                  | (rw [if_neg (by rw [decide_eq_true_iff]; grind)]; done)
              · refine wv_iload_n dX8_isSign_42 rfl ?_
                refine wv_bipush (v := 45) dX8_isSign_43 (by decide) ?_
                refine wv_icmp_eq (tgt := 54) dX8_isSign_45 (by decide) (fun h45 => ?_) (fun h45 => ?_)
                · refine wv_iconst (v := 1) dX8_isSign_54 (by decide) ?_
                  refine wv_goto (tgt := 59) dX8_isSign_55 (by decide) ?_
                  refine wv_zret rfl rfl dX8_isSign_59 ?_
                  refine ⟨?_, rfl, rfl, rfl, rfl⟩
                  unfold cSg
                  first
                    | (rw [if_pos (by rw [decide_eq_true_iff]; grind)]; done)
                    | (rw [if_neg (by rw [decide_eq_true_iff]; grind)]; done)
                · refine wv_iload_n dX8_isSign_48 rfl ?_
                  refine wv_bipush (v := 42) dX8_isSign_49 (by decide) ?_
                  refine wv_icmp_ne (tgt := 58) dX8_isSign_51 (by decide) (fun h51 => ?_) (fun h51 => ?_)
                  · refine wv_iconst (v := 0) dX8_isSign_58 (by decide) ?_
                    refine wv_zret rfl rfl dX8_isSign_59 ?_
                    refine ⟨?_, rfl, rfl, rfl, rfl⟩
                    unfold cSg
                    first
                      | (rw [if_pos (by rw [decide_eq_true_iff]; grind)]; done)
                      | (rw [if_neg (by rw [decide_eq_true_iff]; grind)]; done)
                  · refine wv_iconst (v := 1) dX8_isSign_54 (by decide) ?_
                    refine wv_goto (tgt := 59) dX8_isSign_55 (by decide) ?_
                    refine wv_zret rfl rfl dX8_isSign_59 ?_
                    refine ⟨?_, rfl, rfl, rfl, rfl⟩
                    unfold cSg
                    first
                      | (rw [if_pos (by rw [decide_eq_true_iff]; grind)]; done)
                      | (rw [if_neg (by rw [decide_eq_true_iff]; grind)]; done)

/-- the model's token -/
def mkV (I : wr_TI) (L : wr_TL) (T : TP) (k : TK) : Prop := I 55 7 = nI k.2.1 ∧ I 55 6 = (if k.1 = 3 then bt T k.2.1 else if k.1 = 4 then 3 else nI k.1) ∧ I 55 4 = nI (if k.1 = 4 then k.2.1 else k.2.2.1) ∧ (k.1 = 2 → I 55 8 = k.2.2.2) ∧ (k.1 = 1 → L 55 9 = lN (enc (bn T k.2.1) (k.2.2.1 - k.2.1)))
def frTk (I : wr_TI) (L : wr_TL) (I' : wr_TI) (L' : wr_TL) : Prop := (∀ b, b ≠ 55 → I' b = I b) ∧ (∀ k, k ≠ 4 → k ≠ 6 → k ≠ 7 → k ≠ 8 → I' 55 k = I 55 k) ∧ (∀ b, b ≠ 55 → L' b = L b) ∧ ∀ k, k ≠ 9 → L' 55 k = L 55 k
set_option maxHeartbeats 4000000 in
set_option maxRecDepth 100000 in
theorem x_token {l : Launch} {I : wr_TI} {L : wr_TL} {R : wr_TR} (hR : wr_RC R) (T : TP) (hT : mpV I T) (p : Nat) (hp8 : p ≤ 800) (hp : I 55 4 = nI p) : wr_P l 1 mX8_token [.ref 55] SH I L R (fun v s' I' L' R' => v = none ∧ s' = SH ∧ R' = R ∧ mkV I' L' T (tkS T p) ∧ frTk I L I' L') := by
  obtain ⟨t1, t2, t3, t4⟩ := id hT
  have hbn : ∀ i, i < 2 ^ 31 → bt T i < 0 → bt T i = -1 := fun i hi h => by
    rw [bt_e t2 hi] at h ⊢
    by_cases hlt : i < T.1
    · rw [if_pos hlt] at h; exact absurd h (Int32.not_lt.mpr (t4 i hlt))
    · rw [if_neg hlt]
  -- behind the sort: the place moves on, but for what is no token
  have fin : ∀ (a nn : Nat) (J : wr_TI) (K : wr_TL), a ≤ 800 → nn ≤ 800 → (∀ b, b ≠ 55 → J b = I b) → (∀ k, k ≠ 4 → k ≠ 6 → k ≠ 7 → k ≠ 8 → J 55 k = I 55 k) → (∀ b, b ≠ 55 → K b = L b) → (∀ k, k ≠ 9 → K 55 k = L 55 k) → J 55 4 = nI a → J 55 7 = nI a → (let k := tkA T a; J 55 6 = (if k.1 = 3 then bt T k.2.1 else if k.1 = 4 then 3 else nI k.1) ∧ k.2.1 = a ∧ (¬ k.1 = 4 → a + nn = k.2.2.1) ∧ k.1 ≤ 4 ∧ (k.1 = 3 → ¬ bt T a = 3) ∧ (k.1 = 2 → J 55 8 = k.2.2.2) ∧ (k.1 = 1 → K 55 9 = lN (enc (bn T k.2.1) (k.2.2.1 - k.2.1)))) → tkS T p = tkA T a → wr_V l 1 mX8_token 232 [some (.ref 55), none, some (.int (nI nn))] [] SH J K R 0 0 (fun v s' I' L' R' => v = none ∧ s' = SH ∧ R' = R ∧ mkV I' L' T (tkS T p) ∧ frTk I L I' L') := by
    intro a nn J K ha hnn h1 h2 h3 h4 h5 h6 hk hS
    rw [hS]
    generalize tkA T a = k at hk
    obtain ⟨k1, k2, k3, k4, k5, k6, k7⟩ := hk
    have hs3 : J 55 6 = 3 ↔ k.1 = 4 := by
      rw [k1]
      by_cases e3 : k.1 = 3
      · rw [if_pos e3, k2]; exact ⟨fun z => absurd z (k5 e3), fun z => by omega⟩
      · rw [if_neg e3]
        by_cases e4 : k.1 = 4
        · rw [if_pos e4]; exact ⟨fun _ => e4, fun _ => rfl⟩
        · rw [if_neg e4]; exact ⟨fun z => absurd ((nI_eq (b := 3) (by omega) (by omega)).mp z) e3, fun z => absurd z e4⟩
    refine wv_aload_n dX8_token_232 rfl ?_
    refine wv_getI fX8_187 dX8_token_233 rfl (by first | assumption | rfl) ?_
    refine wv_iconst (v := 3) dX8_token_236 (by decide) ?_
    refine wv_icmp_eq (tgt := 250) dX8_token_237 (by decide) (fun h237 => ?_) (fun h237 => ?_)
    · have e4 := hs3.mp h237
      refine wv_ret (x := ()) rfl dX8_token_250 ?_
      first
        | (have _ := h237
           have e4 : k.1 = 4 := hs3.mp h237
           exact ⟨rfl, rfl, rfl, ⟨by rw [h6, k2], k1, by rw [if_pos e4, h5, k2], k6, k7⟩, h1, h2, h3, h4⟩)
        | (have ea := k3 e4
           refine ⟨rfl, rfl, rfl, ⟨by simp [wr_uI]; rw [h6, k2], by simp [wr_uI]; exact k1, ?_, fun z => by simp [wr_uI]; exact k6 z, k7⟩, fun b hb => by rw [wr_uI_ne hb]; exact h1 b hb, fun q q1 q2 q3 q4 => by simp [wr_uI, q1]; exact h2 q q1 q2 q3 q4, h3, h4⟩
           rw [if_neg e4]
           simp [wr_uI]
           rw [h5, nI_add, ea])
    · have e4 : ¬ k.1 = 4 := fun z => h237 (hs3.mpr z)
      refine wv_aload_n dX8_token_240 rfl ?_
      refine wv_dup dX8_token_241 rfl ?_
      refine wv_getI fX8_167 dX8_token_242 rfl (by first | assumption | rfl) ?_
      refine wv_iload_n dX8_token_245 rfl ?_
      refine wv_iadd dX8_token_246 ?_
      refine wv_putI fX8_167 dX8_token_247 rfl rfl rfl rfl (by first | assumption | rfl) ?_
      refine wv_ret (x := ()) rfl dX8_token_250 ?_
      first
        | (have _ := h237
           have e4 : k.1 = 4 := hs3.mp h237
           exact ⟨rfl, rfl, rfl, ⟨by rw [h6, k2], k1, by rw [if_pos e4, h5, k2], k6, k7⟩, h1, h2, h3, h4⟩)
        | (have ea := k3 e4
           refine ⟨rfl, rfl, rfl, ⟨by simp [wr_uI]; rw [h6, k2], by simp [wr_uI]; exact k1, ?_, fun z => by simp [wr_uI]; exact k6 z, k7⟩, fun b hb => by rw [wr_uI_ne hb]; exact h1 b hb, fun q q1 q2 q3 q4 => by simp [wr_uI, q1]; exact h2 q q1 q2 q3 q4, h3, h4⟩
           rw [if_neg e4]
           simp [wr_uI]
           rw [h5, nI_add, ea])
  -- from 41 on: the first byte is at a, which is no blank
  have body : ∀ (a : Nat) (J : wr_TI), a ≤ 800 → (∀ b, b ≠ 55 → J b = I b) → (∀ k, k ≠ 4 → J 55 k = I 55 k) → J 55 4 = nI a → tkS T p = tkA T a → wr_V l 1 mX8_token 33 [some (.ref 55), none, none] [] SH J L R 0 0 (fun v s' I' L' R' => v = none ∧ s' = SH ∧ R' = R ∧ mkV I' L' T (tkS T p) ∧ frTk I L I' L') := by
    intro a J0 ha h1 h2 h5 hS
    have hTm : ∀ (J : wr_TI), (∀ b, b ≠ 55 → J b = I b) → (∀ k, k ≠ 4 → k ≠ 6 → k ≠ 7 → k ≠ 8 → J 55 k = I 55 k) → mpV J T := fun J q1 q2 => ⟨by rw [q2 5 (by omega) (by omega) (by omega) (by omega)]; exact t1, t2, fun i hi => by rw [q1 56 (by omega)]; exact t3 i hi, t4⟩
    -- the letters
    have hL := rnE_ge cLt T (800 - a) a
    have hD := rnE_ge cDg T (800 - a) a
    have lw : ∀ (q i : Nat) (J : wr_TI) (K : wr_TL), cLt (bt T a) = true → a + i + q = rnE cLt T (800 - a) a → (∀ b, b ≠ 55 → J b = I b) → (∀ k, k ≠ 4 → k ≠ 6 → k ≠ 7 → k ≠ 8 → J 55 k = I 55 k) → (∀ b, b ≠ 55 → K b = L b) → (∀ k, k ≠ 9 → K 55 k = L 55 k) → J 55 4 = nI a → J 55 7 = nI a → K 55 9 = lN (enc (bn T a) (min i 8)) → wr_V l 1 mX8_token 78 [some (.ref 55), none, some (.int (nI i))] [] SH J K R 0 0 (fun v s' I' L' R' => v = none ∧ s' = SH ∧ R' = R ∧ mkV I' L' T (tkS T p) ∧ frTk I L I' L') := by
      intro q
      induction q with
      | zero =>
        intro i J K hlet hi g1 g2 g3 g4 g5 g6 hw
        have hend : cLt (bt T (a + i)) = false := by rw [show a + i = rnE cLt T (800 - a) a by omega]; exact rnE_end t2 (by decide) (800 - a) a (by omega)
        have e0 : (if cLt (bt T (a + i)) = true then (1 : Int32) else 0) = 0 := by rw [hend]; rfl
        have hne : ¬ bt T a = -1 := fun z => by rw [z] at hlet; exact absurd hlet (by decide)
        have hA : tkA T a = (if 8 < rnE cLt T (800 - a) a - a then 4 else 1, a, rnE cLt T (800 - a) a, 0) := by unfold tkA; rw [if_neg hne, if_pos hlet]
        have eN : rnE cLt T (800 - a) a - a = i := by omega
        rw [eN] at hA
        refine wv_aload_n dX8_token_78 rfl ?_
        refine wv_iload_n dX8_token_79 rfl ?_
        refine wv_v1e oX8_here kX8_173 dX8_token_80 (by omega) (by first | assumption | rfl) ⟨rfl, by decide⟩ (Nat.le_of_ble_eq_true rfl) (Nat.le_of_ble_eq_true rfl) (x_here hR T (hTm J g1 g2) a i g5 (by omega)) ?_
        refine wv_s1e oX8_isLetter kX8_190 dX8_token_83 (by omega) (Nat.le_of_ble_eq_true rfl) (Nat.le_of_ble_eq_true rfl) (x_isLetter _) ?_
        refine wv_if_eq (tgt := 119) dX8_token_86 (by decide) (fun h86 => ?_) (fun h86 => absurd e0 h86)
        refine wv_aload_n dX8_token_119 rfl ?_
        refine wv_iload_n dX8_token_120 rfl ?_
        refine wv_bipush (v := 8) dX8_token_121 (by decide) ?_
        refine wv_icmp_le (tgt := 130) dX8_token_123 (by decide) (fun h123 => ?_) (fun h123 => ?_)
        · have h8 : ¬ 8 < i := by have := (nI_leI (b := 8) (by omega) (by omega)).mp h123; omega
          rw [if_neg h8] at hA
          refine wv_iconst (v := 1) dX8_token_130 (by decide) ?_
          refine wv_putI fX8_187 dX8_token_131 rfl rfl rfl rfl (by first | assumption | rfl) ?_
          refine wv_goto (tgt := 232) dX8_token_134 (by decide) ?_
          refine wv_le (by simp [wr_leq, wr_s1, wr_s2, wr_wide]) (fin a i _ K ha (by omega) (fun b hb => by rw [wr_uI_ne hb]; exact g1 b hb) (fun k q1 q2 q3 q4 => by simp [wr_uI, q2]; exact g2 k q1 q2 q3 q4) g3 g4 (by simp [wr_uI]; exact g5) (by simp [wr_uI]; exact g6) ?_ hS)
          rw [hA]
          refine ⟨by simp [wr_uI]; try rfl, rfl, fun _ => by simp only; omega, by simp only; omega, fun z => by simp at z, fun z => by simp at z, fun z => ?_⟩
          first
            | (exfalso; simp at z; done)
            | (simp only
               rw [hw, show min i 8 = i by omega, show rnE cLt T (800 - a) a - a = i by omega])
        · have h8 : 8 < i := Nat.lt_of_not_le (fun z => h123 (nI_le (b := 8) z (by omega)))
          rw [if_pos h8] at hA
          refine wv_iconst (v := 3) dX8_token_126 (by decide) ?_
          refine wv_goto (tgt := 131) dX8_token_127 (by decide) ?_
          refine wv_putI fX8_187 dX8_token_131 rfl rfl rfl rfl (by first | assumption | rfl) ?_
          refine wv_goto (tgt := 232) dX8_token_134 (by decide) ?_
          refine wv_le (by simp [wr_leq, wr_s1, wr_s2, wr_wide]) (fin a i _ K ha (by omega) (fun b hb => by rw [wr_uI_ne hb]; exact g1 b hb) (fun k q1 q2 q3 q4 => by simp [wr_uI, q2]; exact g2 k q1 q2 q3 q4) g3 g4 (by simp [wr_uI]; exact g5) (by simp [wr_uI]; exact g6) ?_ hS)
          rw [hA]
          refine ⟨by simp [wr_uI]; try rfl, rfl, fun _ => by simp only; omega, by simp only; omega, fun z => by simp at z, fun z => by simp at z, fun z => ?_⟩
          first
            | (exfalso; simp at z; done)
            | (simp only
               rw [hw, show min i 8 = i by omega, show rnE cLt T (800 - a) a - a = i by omega])
      | succ q ih =>
        intro i J K hlet hi g1 g2 g3 g4 g5 g6 hw
        have hin : cLt (bt T (a + i)) = true := rnE_all (800 - a) a (a + i) (by omega) (by omega)
        obtain ⟨b1, b2, b3⟩ := lt_bn hin
        have e0 : ¬ (if cLt (bt T (a + i)) = true then (1 : Int32) else 0) = 0 := by rw [hin]; decide
        refine wv_aload_n dX8_token_78 rfl ?_
        refine wv_iload_n dX8_token_79 rfl ?_
        refine wv_v1e oX8_here kX8_173 dX8_token_80 (by omega) (by first | assumption | rfl) ⟨rfl, by decide⟩ (Nat.le_of_ble_eq_true rfl) (Nat.le_of_ble_eq_true rfl) (x_here hR T (hTm J g1 g2) a i g5 (by omega)) ?_
        refine wv_s1e oX8_isLetter kX8_190 dX8_token_83 (by omega) (Nat.le_of_ble_eq_true rfl) (Nat.le_of_ble_eq_true rfl) (x_isLetter _) ?_
        refine wv_if_eq (tgt := 119) dX8_token_86 (by decide) (fun h86 => absurd h86 e0) (fun h86 => ?_)
        refine wv_iload_n dX8_token_89 rfl ?_
        refine wv_bipush (v := 8) dX8_token_90 (by decide) ?_
        refine wv_icmp_ge (tgt := 113) dX8_token_92 (by decide) (fun h92 => ?_) (fun h92 => ?_)
        · have h8 : 8 ≤ i := (nI_leI (a := 8) (by omega) (by omega)).mp h92
          have em : min (i + 1) 8 = min i 8 := by omega
          refine wv_iinc (v := nI (i + 1)) dX8_token_113 rfl (nI_1 (i)) (by decide) ?_
          refine wv_goto (tgt := 78) dX8_token_116 (by decide) ?_
          first
            | (have _ := h92
               exact wv_le (by simp [wr_leq, wr_s1, wr_s2, wr_wide]) (ih (i + 1) J K hlet (by omega) g1 g2 g3 g4 g5 g6 (by rw [em]; exact hw)))
            | exact wv_le (by simp [wr_leq, wr_s1, wr_s2, wr_wide]) (ih (i + 1) J _ hlet (by omega) g1 g2 (fun b hb => by funext d; simp [wr_uL, hb]; rw [g3 b hb]) (fun k hk => by simp [wr_uL, hk]; exact g4 k hk) g5 g6 (by simp [wr_uL]))
        · have h8 : ¬ 8 ≤ i := fun z => h92 (nI_le (a := 8) z (by omega))
          have em : enc (bn T a) (min (i + 1) 8) = enc (bn T a) (min i 8) * 256 + bn T a i := by rw [show min (i + 1) 8 = i + 1 by omega, show min i 8 = i by omega]; rfl
          refine wv_aload_n dX8_token_95 rfl ?_
          refine wv_aload_n dX8_token_96 rfl ?_
          refine wv_getL fX8_180 dX8_token_97 rfl (by first | assumption | rfl) ?_
          refine wv_bipush (v := 8) dX8_token_100 (by decide) ?_
          refine wv_lshl dX8_token_102 ?_
          refine wv_aload_n dX8_token_103 rfl ?_
          refine wv_iload_n dX8_token_104 rfl ?_
          refine wv_v1e oX8_here kX8_173 dX8_token_105 (by omega) (by first | assumption | rfl) ⟨rfl, by decide⟩ (Nat.le_of_ble_eq_true rfl) (Nat.le_of_ble_eq_true rfl) (x_here hR T (hTm J g1 g2) a i g5 (by omega)) ?_
          refine wv_i2l dX8_token_108 ?_
          rw [hw, b1, nI_l (by omega)]
          refine wv_lor dX8_token_109 ?_
          rw [lN_sh _ _ (by omega), ← em]
          refine wv_putL fX8_180 dX8_token_110 rfl rfl rfl rfl (by first | assumption | rfl) ?_
          refine wv_iinc (v := nI (i + 1)) dX8_token_113 rfl (nI_1 (i)) (by decide) ?_
          refine wv_goto (tgt := 78) dX8_token_116 (by decide) ?_
          first
            | (have _ := h92
               exact wv_le (by simp [wr_leq, wr_s1, wr_s2, wr_wide]) (ih (i + 1) J K hlet (by omega) g1 g2 g3 g4 g5 g6 (by rw [em]; exact hw)))
            | exact wv_le (by simp [wr_leq, wr_s1, wr_s2, wr_wide]) (ih (i + 1) J _ hlet (by omega) g1 g2 (fun b hb => by funext d; simp [wr_uL, hb]; rw [g3 b hb]) (fun k hk => by simp [wr_uL, hk]; exact g4 k hk) g5 g6 (by simp [wr_uL]))
    -- the digits
    have ld : ∀ (q i : Nat) (J : wr_TI) (K : wr_TL), cLt (bt T a) = false → cDg (bt T a) = true → a + i + q = rnE cDg T (800 - a) a → (∀ b, b ≠ 55 → J b = I b) → (∀ k, k ≠ 4 → k ≠ 6 → k ≠ 7 → k ≠ 8 → J 55 k = I 55 k) → (∀ b, b ≠ 55 → K b = L b) → (∀ k, k ≠ 9 → K 55 k = L 55 k) → J 55 4 = nI a → J 55 7 = nI a → J 55 8 = nf T a (min i 4) → wr_V l 1 mX8_token 144 [some (.ref 55), none, some (.int (nI i))] [] SH J K R 0 0 (fun v s' I' L' R' => v = none ∧ s' = SH ∧ R' = R ∧ mkV I' L' T (tkS T p) ∧ frTk I L I' L') := by
      intro q
      induction q with
      | zero =>
        intro i J K hlet hdig hi g1 g2 g3 g4 g5 g6 hw
        have hend : cDg (bt T (a + i)) = false := by rw [show a + i = rnE cDg T (800 - a) a by omega]; exact rnE_end t2 (by decide) (800 - a) a (by omega)
        have e0 : (if cDg (bt T (a + i)) = true then (1 : Int32) else 0) = 0 := by rw [hend]; rfl
        have hne : ¬ bt T a = -1 := fun z => by rw [z] at hdig; exact absurd hdig (by decide)
        have hnum : nmE T (800 - a) a 0 = nf T a i := by
          have := nmE_nf (T := T) (a := a) (800 - a) 0
          rw [show rnE cDg T (800 - a) (a + 0) - a = i from by rw [Nat.add_zero]; omega] at this
          exact this
        have hA : tkA T a = (if 4 < rnE cDg T (800 - a) a - a ∨ cLt (bt T (rnE cDg T (800 - a) a)) = true then 4 else 2, a, rnE cDg T (800 - a) a, nmE T (800 - a) a 0) := by unfold tkA; rw [if_neg hne, if_neg (by rw [hlet]; decide), if_pos hdig]
        rw [show rnE cDg T (800 - a) a = a + i by omega, show a + i - a = i by omega, hnum] at hA
        refine wv_aload_n dX8_token_144 rfl ?_
        refine wv_iload_n dX8_token_145 rfl ?_
        refine wv_v1e oX8_here kX8_173 dX8_token_146 (by omega) (by first | assumption | rfl) ⟨rfl, by decide⟩ (Nat.le_of_ble_eq_true rfl) (Nat.le_of_ble_eq_true rfl) (x_here hR T (hTm J g1 g2) a i g5 (by omega)) ?_
        refine wv_s1e oX8_isDigit kX8_194 dX8_token_149 (by omega) (Nat.le_of_ble_eq_true rfl) (Nat.le_of_ble_eq_true rfl) (x_isDigit _) ?_
        refine wv_if_eq (tgt := 186) dX8_token_152 (by decide) (fun h152 => ?_) (fun h152 => absurd e0 h152)
        refine wv_aload_n dX8_token_186 rfl ?_
        refine wv_iload_n dX8_token_187 rfl ?_
        refine wv_iconst (v := 4) dX8_token_188 (by decide) ?_
        refine wv_icmp_gt (tgt := 203) dX8_token_189 (by decide) (fun h189 => ?_) (fun h189 => ?_)
        · have h4b : 4 < i := (nI_ltI (a := 4) (by omega) (by omega)).mp h189
          rw [if_pos (Or.inl h4b)] at hA
          refine wv_iconst (v := 3) dX8_token_203 (by decide) ?_
          refine wv_goto (tgt := 208) dX8_token_204 (by decide) ?_
          refine wv_putI fX8_187 dX8_token_208 rfl rfl rfl rfl (by first | assumption | rfl) ?_
          refine wv_goto (tgt := 232) dX8_token_211 (by decide) ?_
          refine wv_le (by simp [wr_leq, wr_s1, wr_s2, wr_wide]) (fin a i _ K ha (by omega) (fun b hb => by rw [wr_uI_ne hb]; exact g1 b hb) (fun k q1 q2 q3 q4 => by simp [wr_uI, q2]; exact g2 k q1 q2 q3 q4) g3 g4 (by simp [wr_uI]; exact g5) (by simp [wr_uI]; exact g6) ?_ hS)
          rw [hA]
          refine ⟨by simp [wr_uI]; try rfl, rfl, fun _ => rfl, by simp only; omega, fun z => by simp at z, fun z => ?_, fun z => by simp at z⟩
          first
            | (exfalso; simp at z; done)
            | (simp [wr_uI]
               rw [hw, show min i 4 = i by omega])
        · have h4b : ¬ 4 < i := fun z => h189 (nI_lt (a := 4) z (by omega))
          refine wv_aload_n dX8_token_192 rfl ?_
          refine wv_iload_n dX8_token_193 rfl ?_
          refine wv_v1e oX8_here kX8_173 dX8_token_194 (by omega) (by first | assumption | rfl) ⟨rfl, by decide⟩ (Nat.le_of_ble_eq_true rfl) (Nat.le_of_ble_eq_true rfl) (x_here hR T (hTm J g1 g2) a i g5 (by omega)) ?_
          refine wv_s1e oX8_isLetter kX8_190 dX8_token_197 (by omega) (Nat.le_of_ble_eq_true rfl) (Nat.le_of_ble_eq_true rfl) (x_isLetter _) ?_
          refine wv_if_eq (tgt := 207) dX8_token_200 (by decide) (fun h200 => ?_) (fun h200 => ?_)
          · rw [if10] at h200
            rw [if_neg (fun z => by rcases z with z | z; exact h4b z; exact h200 z)] at hA
            refine wv_iconst (v := 2) dX8_token_207 (by decide) ?_
            refine wv_putI fX8_187 dX8_token_208 rfl rfl rfl rfl (by first | assumption | rfl) ?_
            refine wv_goto (tgt := 232) dX8_token_211 (by decide) ?_
            refine wv_le (by simp [wr_leq, wr_s1, wr_s2, wr_wide]) (fin a i _ K ha (by omega) (fun b hb => by rw [wr_uI_ne hb]; exact g1 b hb) (fun k q1 q2 q3 q4 => by simp [wr_uI, q2]; exact g2 k q1 q2 q3 q4) g3 g4 (by simp [wr_uI]; exact g5) (by simp [wr_uI]; exact g6) ?_ hS)
            rw [hA]
            refine ⟨by simp [wr_uI]; try rfl, rfl, fun _ => rfl, by simp only; omega, fun z => by simp at z, fun z => ?_, fun z => by simp at z⟩
            first
              | (exfalso; simp at z; done)
              | (simp [wr_uI]
                 rw [hw, show min i 4 = i by omega])
          · rw [if10, Decidable.not_not] at h200
            rw [if_pos (Or.inr h200)] at hA
            refine wv_iconst (v := 3) dX8_token_203 (by decide) ?_
            refine wv_goto (tgt := 208) dX8_token_204 (by decide) ?_
            refine wv_putI fX8_187 dX8_token_208 rfl rfl rfl rfl (by first | assumption | rfl) ?_
            refine wv_goto (tgt := 232) dX8_token_211 (by decide) ?_
            refine wv_le (by simp [wr_leq, wr_s1, wr_s2, wr_wide]) (fin a i _ K ha (by omega) (fun b hb => by rw [wr_uI_ne hb]; exact g1 b hb) (fun k q1 q2 q3 q4 => by simp [wr_uI, q2]; exact g2 k q1 q2 q3 q4) g3 g4 (by simp [wr_uI]; exact g5) (by simp [wr_uI]; exact g6) ?_ hS)
            rw [hA]
            refine ⟨by simp [wr_uI]; try rfl, rfl, fun _ => rfl, by simp only; omega, fun z => by simp at z, fun z => ?_, fun z => by simp at z⟩
            first
              | (exfalso; simp at z; done)
              | (simp [wr_uI]
                 rw [hw, show min i 4 = i by omega])
      | succ q ih =>
        intro i J K hlet hdig hi g1 g2 g3 g4 g5 g6 hw
        have hin : cDg (bt T (a + i)) = true := rnE_all (800 - a) a (a + i) (by omega) (by omega)
        have e0 : ¬ (if cDg (bt T (a + i)) = true then (1 : Int32) else 0) = 0 := by rw [hin]; decide
        refine wv_aload_n dX8_token_144 rfl ?_
        refine wv_iload_n dX8_token_145 rfl ?_
        refine wv_v1e oX8_here kX8_173 dX8_token_146 (by omega) (by first | assumption | rfl) ⟨rfl, by decide⟩ (Nat.le_of_ble_eq_true rfl) (Nat.le_of_ble_eq_true rfl) (x_here hR T (hTm J g1 g2) a i g5 (by omega)) ?_
        refine wv_s1e oX8_isDigit kX8_194 dX8_token_149 (by omega) (Nat.le_of_ble_eq_true rfl) (Nat.le_of_ble_eq_true rfl) (x_isDigit _) ?_
        refine wv_if_eq (tgt := 186) dX8_token_152 (by decide) (fun h152 => absurd h152 e0) (fun h152 => ?_)
        refine wv_iload_n dX8_token_155 rfl ?_
        refine wv_iconst (v := 4) dX8_token_156 (by decide) ?_
        refine wv_icmp_ge (tgt := 180) dX8_token_157 (by decide) (fun h157 => ?_) (fun h157 => ?_)
        · have h8 : 4 ≤ i := (nI_leI (a := 4) (by omega) (by omega)).mp h157
          have em : min (i + 1) 4 = min i 4 := by omega
          refine wv_iinc (v := nI (i + 1)) dX8_token_180 rfl (nI_1 (i)) (by decide) ?_
          refine wv_goto (tgt := 144) dX8_token_183 (by decide) ?_
          first
            | (have _ := h157
               exact wv_le (by simp [wr_leq, wr_s1, wr_s2, wr_wide]) (ih (i + 1) J K hlet hdig (by omega) g1 g2 g3 g4 g5 g6 (by rw [em]; exact hw)))
            | exact wv_le (by simp [wr_leq, wr_s1, wr_s2, wr_wide]) (ih (i + 1) _ K hlet hdig (by omega) (fun b hb => by rw [wr_uI_ne hb]; exact g1 b hb) (fun k q1 q2 q3 q4 => by simp [wr_uI, q4]; exact g2 k q1 q2 q3 q4) g3 g4 (by simp [wr_uI]; exact g5) (by simp [wr_uI]; exact g6) (by simp [wr_uI]))
        · have h8 : ¬ 4 ≤ i := fun z => h157 (nI_le (a := 4) z (by omega))
          have em : 10 * nf T a (min i 4) + bt T (a + i) - 48 = nf T a (min (i + 1) 4) := by rw [show min (i + 1) 4 = i + 1 by omega, show min i 4 = i by omega, Int32.mul_comm]; rfl
          refine wv_aload_n dX8_token_160 rfl ?_
          refine wv_bipush (v := 10) dX8_token_161 (by decide) ?_
          refine wv_aload_n dX8_token_163 rfl ?_
          refine wv_getI fX8_184 dX8_token_164 rfl (by first | assumption | rfl) ?_
          refine wv_imul dX8_token_167 ?_
          refine wv_aload_n dX8_token_168 rfl ?_
          refine wv_iload_n dX8_token_169 rfl ?_
          refine wv_v1e oX8_here kX8_173 dX8_token_170 (by omega) (by first | assumption | rfl) ⟨rfl, by decide⟩ (Nat.le_of_ble_eq_true rfl) (Nat.le_of_ble_eq_true rfl) (x_here hR T (hTm J g1 g2) a i g5 (by omega)) ?_
          refine wv_iadd dX8_token_173 ?_
          refine wv_bipush (v := 48) dX8_token_174 (by decide) ?_
          refine wv_isub dX8_token_176 ?_
          rw [hw, em]
          refine wv_putI fX8_184 dX8_token_177 rfl rfl rfl rfl (by first | assumption | rfl) ?_
          refine wv_iinc (v := nI (i + 1)) dX8_token_180 rfl (nI_1 (i)) (by decide) ?_
          refine wv_goto (tgt := 144) dX8_token_183 (by decide) ?_
          first
            | (have _ := h157
               exact wv_le (by simp [wr_leq, wr_s1, wr_s2, wr_wide]) (ih (i + 1) J K hlet hdig (by omega) g1 g2 g3 g4 g5 g6 (by rw [em]; exact hw)))
            | exact wv_le (by simp [wr_leq, wr_s1, wr_s2, wr_wide]) (ih (i + 1) _ K hlet hdig (by omega) (fun b hb => by rw [wr_uI_ne hb]; exact g1 b hb) (fun k q1 q2 q3 q4 => by simp [wr_uI, q4]; exact g2 k q1 q2 q3 q4) g3 g4 (by simp [wr_uI]; exact g5) (by simp [wr_uI]; exact g6) (by simp [wr_uI]))
    have j7 : mpV (wr_uI J0 55 7 (nI a)) T := hTm _ (fun b hb => by rw [wr_uI_ne hb]; exact h1 b hb) (fun k q1 q2 q3 q4 => by simp [wr_uI, q3]; exact h2 k q1)
    have w1 : ∀ b, b ≠ 55 → wr_uI (wr_uI J0 55 7 (nI a)) 55 8 0 b = I b := fun b hb => by rw [wr_uI_ne hb, wr_uI_ne hb]; exact h1 b hb
    have w2 : ∀ k, k ≠ 4 → k ≠ 6 → k ≠ 7 → k ≠ 8 → wr_uI (wr_uI J0 55 7 (nI a)) 55 8 0 55 k = I 55 k := fun k q1 q2 q3 q4 => by simp [wr_uI, q3, q4]; exact h2 k q1
    have w3 : ∀ b, b ≠ 55 → wr_uL L 55 9 0 b = L b := fun b hb => by funext d; simp [wr_uL, hb]
    have w4 : ∀ k, k ≠ 9 → wr_uL L 55 9 0 55 k = L 55 k := fun k hk => by simp [wr_uL, hk]
    have w5 : wr_uI (wr_uI J0 55 7 (nI a)) 55 8 0 55 4 = nI a := by simp [wr_uI]; exact h5
    have w6 : wr_uI (wr_uI J0 55 7 (nI a)) 55 8 0 55 7 = nI a := by simp [wr_uI]
    refine wv_aload_n dX8_token_33 rfl ?_
    refine wv_aload_n dX8_token_34 rfl ?_
    refine wv_getI fX8_167 dX8_token_35 rfl (by first | assumption | rfl) ?_
    rw [h5]
    refine wv_putI fX8_177 dX8_token_38 rfl rfl rfl rfl (by first | assumption | rfl) ?_
    refine wv_aload_n dX8_token_41 rfl ?_
    refine wv_iconst (v := nI 0) dX8_token_42 rfl ?_
    refine wv_v1e oX8_here kX8_173 dX8_token_43 (by omega) (by first | assumption | rfl) ⟨rfl, by decide⟩ (Nat.le_of_ble_eq_true rfl) (Nat.le_of_ble_eq_true rfl) (x_here hR T j7 a 0 (by simp [wr_uI]; exact h5) (by omega)) ?_
    refine wv_istore_k (i := 1) dX8_token_46 rfl (by decide) ?_
    refine wv_iconst (v := nI 0) dX8_token_47 rfl ?_
    refine wv_istore_k (i := 2) dX8_token_48 rfl (by decide) ?_
    refine wv_aload_n dX8_token_49 rfl ?_
    refine wv_lconst (v := 0) dX8_token_50 (by decide) ?_
    refine wv_putL fX8_180 dX8_token_51 rfl rfl rfl rfl (by first | assumption | rfl) ?_
    refine wv_aload_n dX8_token_54 rfl ?_
    refine wv_iconst (v := 0) dX8_token_55 (by decide) ?_
    refine wv_putI fX8_184 dX8_token_56 rfl rfl rfl rfl (by first | assumption | rfl) ?_
    refine wv_iload_n dX8_token_59 rfl ?_
    refine wv_if_ge (tgt := 71) dX8_token_60 (by decide) (fun h60 => ?_) (fun h60 => ?_)
    · have hm : ¬ bt T a = -1 := fun z => by
        have h60b : 0 ≤ bt T a := h60
        rw [z] at h60b
        exact absurd h60b (by decide)
      refine wv_iload_n dX8_token_71 rfl ?_
      refine wv_s1e oX8_isLetter kX8_190 dX8_token_72 (by omega) (Nat.le_of_ble_eq_true rfl) (Nat.le_of_ble_eq_true rfl) (x_isLetter _) ?_
      refine wv_if_eq (tgt := 137) dX8_token_75 (by decide) (fun h75 => ?_) (fun h75 => ?_)
      · rw [if10] at h75
        have hlet : cLt (bt T a) = false := by simpa using h75
        refine wv_iload_n dX8_token_137 rfl ?_
        refine wv_s1e oX8_isDigit kX8_194 dX8_token_138 (by omega) (Nat.le_of_ble_eq_true rfl) (Nat.le_of_ble_eq_true rfl) (x_isDigit _) ?_
        refine wv_if_eq (tgt := 214) dX8_token_141 (by decide) (fun h141 => ?_) (fun h141 => ?_)
        · rw [if10] at h141
          have hdig : cDg (bt T a) = false := by simpa using h141
          refine wv_iconst (v := nI 1) dX8_token_214 rfl ?_
          refine wv_istore_k (i := 2) dX8_token_215 rfl (by decide) ?_
          refine wv_aload_n dX8_token_216 rfl ?_
          refine wv_iload_n dX8_token_217 rfl ?_
          refine wv_s1e oX8_isSign kX8_197 dX8_token_218 (by omega) (Nat.le_of_ble_eq_true rfl) (Nat.le_of_ble_eq_true rfl) (x_isSign _) ?_
          refine wv_if_eq (tgt := 228) dX8_token_221 (by decide) (fun h221 => ?_) (fun h221 => ?_)
          · rw [if10, Nat.add_zero] at h221
            have hA : tkA T a = (4, a, a + 1, 0) := by unfold tkA; rw [if_neg hm, if_neg (by rw [hlet]; decide), if_neg (by rw [hdig]; decide), if_neg h221]
            refine wv_iconst (v := 3) dX8_token_228 (by decide) ?_
            refine wv_putI fX8_187 dX8_token_229 rfl rfl rfl rfl (by first | assumption | rfl) ?_
            first
              | (have _ := h221
                 refine wv_le (by simp [wr_leq, wr_s1, wr_s2, wr_wide]) (fin a 1 _ _ ha (by omega) (fun b hb => by rw [wr_uI_ne hb]; exact w1 b hb) (fun k q1 q2 q3 q4 => by rw [show ∀ v, wr_uI (wr_uI (wr_uI J0 55 7 (nI a)) 55 8 0) 55 6 v 55 k = wr_uI (wr_uI J0 55 7 (nI a)) 55 8 0 55 k from fun v => by simp [wr_uI, q2]]; exact w2 k q1 q2 q3 q4) w3 w4 (by simp [wr_uI]; exact h5) (by simp [wr_uI]) ?_ hS)
                 rw [hA]
                 refine ⟨by simp [wr_uI]; try rfl, rfl, fun _ => rfl, by simp only; omega, fun y z => ?_, fun z => by simp at z, fun z => by simp at z⟩
                 first
                   | (exfalso; simp at y; done)
                   | (unfold cSg at h221; rw [decide_eq_true_iff] at h221; rw [z] at h221; exact absurd h221 (by decide)))
              | (refine wv_le (by simp [wr_leq, wr_s1, wr_s2, wr_wide]) (fin a 0 _ _ ha (by omega) (fun b hb => by rw [wr_uI_ne hb]; exact w1 b hb) (fun k q1 q2 q3 q4 => by rw [show ∀ v, wr_uI (wr_uI (wr_uI J0 55 7 (nI a)) 55 8 0) 55 6 v 55 k = wr_uI (wr_uI J0 55 7 (nI a)) 55 8 0 55 k from fun v => by simp [wr_uI, q2]]; exact w2 k q1 q2 q3 q4) w3 w4 (by simp [wr_uI]; exact h5) (by simp [wr_uI]) ?_ hS)
                 rw [hA]
                 exact ⟨by simp [wr_uI]; try rfl, rfl, fun _ => rfl, by simp only; omega, fun z => by simp at z, fun z => by simp at z, fun z => by simp at z⟩)
          · rw [if10, Decidable.not_not, Nat.add_zero] at h221
            have hA : tkA T a = (3, a, a + 1, 0) := by unfold tkA; rw [if_neg hm, if_neg (by rw [hlet]; decide), if_neg (by rw [hdig]; decide), if_pos h221]
            refine wv_iload_n dX8_token_224 rfl ?_
            refine wv_goto (tgt := 229) dX8_token_225 (by decide) ?_
            refine wv_putI fX8_187 dX8_token_229 rfl rfl rfl rfl (by first | assumption | rfl) ?_
            first
              | (have _ := h221
                 refine wv_le (by simp [wr_leq, wr_s1, wr_s2, wr_wide]) (fin a 1 _ _ ha (by omega) (fun b hb => by rw [wr_uI_ne hb]; exact w1 b hb) (fun k q1 q2 q3 q4 => by rw [show ∀ v, wr_uI (wr_uI (wr_uI J0 55 7 (nI a)) 55 8 0) 55 6 v 55 k = wr_uI (wr_uI J0 55 7 (nI a)) 55 8 0 55 k from fun v => by simp [wr_uI, q2]]; exact w2 k q1 q2 q3 q4) w3 w4 (by simp [wr_uI]; exact h5) (by simp [wr_uI]) ?_ hS)
                 rw [hA]
                 refine ⟨by simp [wr_uI]; try rfl, rfl, fun _ => rfl, by simp only; omega, fun y z => ?_, fun z => by simp at z, fun z => by simp at z⟩
                 first
                   | (exfalso; simp at y; done)
                   | (unfold cSg at h221; rw [decide_eq_true_iff] at h221; rw [z] at h221; exact absurd h221 (by decide)))
              | (refine wv_le (by simp [wr_leq, wr_s1, wr_s2, wr_wide]) (fin a 0 _ _ ha (by omega) (fun b hb => by rw [wr_uI_ne hb]; exact w1 b hb) (fun k q1 q2 q3 q4 => by rw [show ∀ v, wr_uI (wr_uI (wr_uI J0 55 7 (nI a)) 55 8 0) 55 6 v 55 k = wr_uI (wr_uI J0 55 7 (nI a)) 55 8 0 55 k from fun v => by simp [wr_uI, q2]]; exact w2 k q1 q2 q3 q4) w3 w4 (by simp [wr_uI]; exact h5) (by simp [wr_uI]) ?_ hS)
                 rw [hA]
                 exact ⟨by simp [wr_uI]; try rfl, rfl, fun _ => rfl, by simp only; omega, fun z => by simp at z, fun z => by simp at z, fun z => by simp at z⟩)
        · rw [if10, Decidable.not_not] at h141
          exact wv_le (by simp [wr_leq, wr_s1, wr_s2, wr_wide]) (ld (rnE cDg T (800 - a) a - a) 0 _ _ hlet h141 (by omega) w1 w2 w3 w4 w5 w6 (by simp [wr_uI, nf]))
      · rw [if10, Decidable.not_not] at h75
        exact wv_le (by simp [wr_leq, wr_s1, wr_s2, wr_wide]) (lw (rnE cLt T (800 - a) a - a) 0 _ _ h75 (by omega) w1 w2 w3 w4 w5 w6 (by simp [wr_uL, enc]; rfl))
    · have hm : bt T a = -1 := hbn a (by omega) (Int32.not_le.mp h60)
      have hA : tkA T a = (0, a, a, 0) := by unfold tkA; rw [if_pos hm]
      refine wv_aload_n dX8_token_63 rfl ?_
      refine wv_iconst (v := 0) dX8_token_64 (by decide) ?_
      refine wv_putI fX8_187 dX8_token_65 rfl rfl rfl rfl (by first | assumption | rfl) ?_
      refine wv_goto (tgt := 232) dX8_token_68 (by decide) ?_
      first
        | (have _ := h221
           refine wv_le (by simp [wr_leq, wr_s1, wr_s2, wr_wide]) (fin a 1 _ _ ha (by omega) (fun b hb => by rw [wr_uI_ne hb]; exact w1 b hb) (fun k q1 q2 q3 q4 => by rw [show ∀ v, wr_uI (wr_uI (wr_uI J0 55 7 (nI a)) 55 8 0) 55 6 v 55 k = wr_uI (wr_uI J0 55 7 (nI a)) 55 8 0 55 k from fun v => by simp [wr_uI, q2]]; exact w2 k q1 q2 q3 q4) w3 w4 (by simp [wr_uI]; exact h5) (by simp [wr_uI]) ?_ hS)
           rw [hA]
           refine ⟨by simp [wr_uI]; try rfl, rfl, fun _ => rfl, by simp only; omega, fun y z => ?_, fun z => by simp at z, fun z => by simp at z⟩
           first
             | (exfalso; simp at y; done)
             | (unfold cSg at h221; rw [decide_eq_true_iff] at h221; rw [z] at h221; exact absurd h221 (by decide)))
        | (refine wv_le (by simp [wr_leq, wr_s1, wr_s2, wr_wide]) (fin a 0 _ _ ha (by omega) (fun b hb => by rw [wr_uI_ne hb]; exact w1 b hb) (fun k q1 q2 q3 q4 => by rw [show ∀ v, wr_uI (wr_uI (wr_uI J0 55 7 (nI a)) 55 8 0) 55 6 v 55 k = wr_uI (wr_uI J0 55 7 (nI a)) 55 8 0 55 k from fun v => by simp [wr_uI, q2]]; exact w2 k q1 q2 q3 q4) w3 w4 (by simp [wr_uI]; exact h5) (by simp [wr_uI]) ?_ hS)
           rw [hA]
           exact ⟨by simp [wr_uI]; try rfl, rfl, fun _ => rfl, by simp only; omega, fun z => by simp at z, fun z => by simp at z, fun z => by simp at z⟩)
  have lp : ∀ (k i : Nat) (J : wr_TI), i + k = 800 → (∀ b, b ≠ 55 → J b = I b) → (∀ k, k ≠ 4 → J 55 k = I 55 k) → J 55 4 = nI i → tkS T p = tkA T (rnE cB T k i) → wr_V l 1 mX8_token 0 [some (.ref 55), none, none] [] SH J L R 0 0 (fun v s' I' L' R' => v = none ∧ s' = SH ∧ R' = R ∧ mkV I' L' T (tkS T p) ∧ frTk I L I' L') := by
    intro k
    induction k with
    | zero =>
      intro i J hi h1 h2 h5 hS
      have hTJ : mpV J T := ⟨by rw [h2 5 (by omega)]; exact t1, t2, fun i hi => by rw [h1 56 (by omega)]; exact t3 i hi, t4⟩
      have hb : bt T (i + 0) = -1 := by rw [bt_e t2 (by omega), if_neg (by omega)]
      refine wv_aload_n dX8_token_0 rfl ?_
      refine wv_iconst (v := nI 0) dX8_token_1 rfl ?_
      refine wv_v1e oX8_here kX8_173 dX8_token_2 (by omega) (by first | assumption | rfl) ⟨rfl, by decide⟩ (Nat.le_of_ble_eq_true rfl) (Nat.le_of_ble_eq_true rfl) (x_here hR T hTJ i 0 h5 (by omega)) ?_
      refine wv_bipush (v := 32) dX8_token_5 (by decide) ?_
      refine wv_icmp_eq (tgt := 20) dX8_token_7 (by decide) (fun h7 => absurd h7 (by rw [hb]; decide)) (fun h7 => ?_)
      refine wv_aload_n dX8_token_10 rfl ?_
      refine wv_iconst (v := nI 0) dX8_token_11 rfl ?_
      refine wv_v1e oX8_here kX8_173 dX8_token_12 (by omega) (by first | assumption | rfl) ⟨rfl, by decide⟩ (Nat.le_of_ble_eq_true rfl) (Nat.le_of_ble_eq_true rfl) (x_here hR T hTJ i 0 h5 (by omega)) ?_
      refine wv_bipush (v := 10) dX8_token_15 (by decide) ?_
      refine wv_icmp_ne (tgt := 33) dX8_token_17 (by decide) (fun h17 => ?_) (fun h17 => absurd h17 (by rw [hb]; decide))
      exact wv_le (by simp [wr_leq, wr_s1, wr_s2, wr_wide]) (body i J (by omega) h1 h2 h5 hS)
    | succ k ih =>
      intro i J hi h1 h2 h5 hS
      have hTJ : mpV J T := ⟨by rw [h2 5 (by omega)]; exact t1, t2, fun i hi => by rw [h1 56 (by omega)]; exact t3 i hi, t4⟩
      simp only [rnE] at hS
      by_cases hcb : cB (bt T i) = true
      · rw [if_pos hcb] at hS
        have hor : bt T i = 32 ∨ bt T i = 10 := by simpa [cB] using hcb
        refine wv_aload_n dX8_token_0 rfl ?_
        refine wv_iconst (v := nI 0) dX8_token_1 rfl ?_
        refine wv_v1e oX8_here kX8_173 dX8_token_2 (by omega) (by first | assumption | rfl) ⟨rfl, by decide⟩ (Nat.le_of_ble_eq_true rfl) (Nat.le_of_ble_eq_true rfl) (x_here hR T hTJ i 0 h5 (by omega)) ?_
        refine wv_bipush (v := 32) dX8_token_5 (by decide) ?_
        refine wv_icmp_eq (tgt := 20) dX8_token_7 (by decide) (fun h7 => ?_) (fun h7 => ?_)
        · refine wv_aload_n dX8_token_20 rfl ?_
          refine wv_dup dX8_token_21 rfl ?_
          refine wv_getI fX8_167 dX8_token_22 rfl (by first | assumption | rfl) ?_
          refine wv_iconst (v := 1) dX8_token_25 (by decide) ?_
          refine wv_iadd dX8_token_26 ?_
          rw [h5, nI_1]
          refine wv_putI fX8_167 dX8_token_27 rfl rfl rfl rfl (by first | assumption | rfl) ?_
          refine wv_goto (tgt := 0) dX8_token_30 (by decide) ?_
          exact wv_le (by simp [wr_leq, wr_s1, wr_s2, wr_wide]) (ih (i + 1) _ (by omega) (fun b hb => by rw [wr_uI_ne hb]; exact h1 b hb) (fun k hk => by simp [wr_uI, hk]; exact h2 k hk) (by simp [wr_uI]) hS)
        · have h7b : ¬ bt T i = 32 := h7
          refine wv_aload_n dX8_token_10 rfl ?_
          refine wv_iconst (v := nI 0) dX8_token_11 rfl ?_
          refine wv_v1e oX8_here kX8_173 dX8_token_12 (by omega) (by first | assumption | rfl) ⟨rfl, by decide⟩ (Nat.le_of_ble_eq_true rfl) (Nat.le_of_ble_eq_true rfl) (x_here hR T hTJ i 0 h5 (by omega)) ?_
          refine wv_bipush (v := 10) dX8_token_15 (by decide) ?_
          refine wv_icmp_ne (tgt := 33) dX8_token_17 (by decide) (fun h17 => absurd (by rcases hor with z | z; exact absurd z h7b; exact z) h17) (fun h17 => ?_)
          refine wv_aload_n dX8_token_20 rfl ?_
          refine wv_dup dX8_token_21 rfl ?_
          refine wv_getI fX8_167 dX8_token_22 rfl (by first | assumption | rfl) ?_
          refine wv_iconst (v := 1) dX8_token_25 (by decide) ?_
          refine wv_iadd dX8_token_26 ?_
          rw [h5, nI_1]
          refine wv_putI fX8_167 dX8_token_27 rfl rfl rfl rfl (by first | assumption | rfl) ?_
          refine wv_goto (tgt := 0) dX8_token_30 (by decide) ?_
          exact wv_le (by simp [wr_leq, wr_s1, wr_s2, wr_wide]) (ih (i + 1) _ (by omega) (fun b hb => by rw [wr_uI_ne hb]; exact h1 b hb) (fun k hk => by simp [wr_uI, hk]; exact h2 k hk) (by simp [wr_uI]) hS)
      · rw [if_neg hcb] at hS
        have hor : ¬ (bt T i = 32 ∨ bt T i = 10) := by simpa [cB] using hcb
        refine wv_aload_n dX8_token_0 rfl ?_
        refine wv_iconst (v := nI 0) dX8_token_1 rfl ?_
        refine wv_v1e oX8_here kX8_173 dX8_token_2 (by omega) (by first | assumption | rfl) ⟨rfl, by decide⟩ (Nat.le_of_ble_eq_true rfl) (Nat.le_of_ble_eq_true rfl) (x_here hR T hTJ i 0 h5 (by omega)) ?_
        refine wv_bipush (v := 32) dX8_token_5 (by decide) ?_
        refine wv_icmp_eq (tgt := 20) dX8_token_7 (by decide) (fun h7 => absurd h7 (fun z => hor (Or.inl z))) (fun h7 => ?_)
        refine wv_aload_n dX8_token_10 rfl ?_
        refine wv_iconst (v := nI 0) dX8_token_11 rfl ?_
        refine wv_v1e oX8_here kX8_173 dX8_token_12 (by omega) (by first | assumption | rfl) ⟨rfl, by decide⟩ (Nat.le_of_ble_eq_true rfl) (Nat.le_of_ble_eq_true rfl) (x_here hR T hTJ i 0 h5 (by omega)) ?_
        refine wv_bipush (v := 10) dX8_token_15 (by decide) ?_
        refine wv_icmp_ne (tgt := 33) dX8_token_17 (by decide) (fun h17 => ?_) (fun h17 => absurd h17 (fun z => hor (Or.inr z)))
        exact wv_le (by simp [wr_leq, wr_s1, wr_s2, wr_wide]) (body i J (by omega) h1 h2 h5 hS)
  refine wv_pad 2 ?_
  show wr_V l 1 mX8_token 0 [some (.ref 55), none, none] [] SH I L R 0 0 _
  exact lp (800 - p) p I (by omega) (fun _ _ => rfl) (fun _ _ => rfl) hp rfl
