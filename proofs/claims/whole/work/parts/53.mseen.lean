/-! the model: who is seen -/
theorem neg_rem : ∀ j n : Fin 41, j.val < n.val → (0 - nI j.val) - (0 - nI j.val) / nI n.val * nI n.val = 0 - nI j.val ∧ (0 < j.val → ¬ 0 ≤ 0 - nI j.val) := by decide +kernel
theorem nI_back {s k : Nat} (h : s ≤ k) : nI s + (-1) * nI k = 0 - nI (k - s) := by
  have : nI k = nI s + nI (k - s) := by rw [nI_add]; congr 1; omega
  rw [this]
  generalize nI s = a
  generalize nI (k - s) = b
  grind
theorem nI_back2 {s k : Nat} (h : k ≤ s) : nI s + (-1) * nI k = nI (s - k) := by
  rw [← pk_sub h]
  generalize nI s = a
  generalize nI k = b
  grind
set_option maxHeartbeats 4000000 in
set_option maxRecDepth 100000 in
theorem x_wrapS {l : Launch} {I : wr_TI} {L : wr_TL} {R : wr_TR} (n s k : Nat) (hn : I 55 28 = nI n) (h40 : n ≤ 40) (hs : s < n) (hk : k < n) : wr_E l 0 mX8_wrap [.ref 55, .int (nI s + (-1) * nI k)] SH I L R (some (.int (nI ((s + n - k) % n)))) I L R := by
  by_cases h : k ≤ s
  · rw [nI_back2 h, show (s + n - k) % n = (s - k) % n by rw [show s + n - k = (s - k) + n by omega, Nat.add_mod_right]]
    exact x_wrap n (s - k) hn (by omega) h40 (by omega)
  · rw [nI_back (by omega), show (s + n - k) % n = n - (k - s) by rw [show s + n - k = n - (k - s) by omega]; exact Nat.mod_eq_of_lt (by omega)]
    obtain ⟨e1, e2⟩ := neg_rem ⟨k - s, by omega⟩ ⟨n, by omega⟩ (by simp only; omega)
    simp only at e1 e2
    have e3 : 0 - nI (k - s) + nI n = nI (n - (k - s)) := by
      rw [show nI (n - (k - s)) = nI n - nI (k - s) from (pk_sub (by omega)).symm]
      generalize nI (k - s) = a
      generalize nI n = b
      grind
    refine wv_pad 1 ?_
    show wr_V l 0 mX8_wrap 0 [some (.ref 55), some (.int (0 - nI (k - s))), none] [] SH I L R 0 0 _
    refine wv_iload_n dX8_wrap_0 rfl ?_
    refine wv_aload_n dX8_wrap_1 rfl ?_
    refine wv_getI fX8_151 dX8_wrap_2 rfl (by first | assumption | rfl) ?_
    refine wv_irem dX8_wrap_5 (by rw [hn]; exact nI_ne0 (by omega) (by omega)) ?_
    rw [hn, e1]
    refine wv_istore_k (i := 2) dX8_wrap_6 rfl (by decide) ?_
    refine wv_iload_n dX8_wrap_7 rfl ?_
    refine wv_if_ge (tgt := 20) dX8_wrap_8 (by decide) (fun h8 => absurd h8 (e2 (by omega))) (fun h8 => ?_)
    refine wv_iload_n dX8_wrap_11 rfl ?_
    refine wv_aload_n dX8_wrap_12 rfl ?_
    refine wv_getI fX8_151 dX8_wrap_13 rfl (by first | assumption | rfl) ?_
    refine wv_iadd dX8_wrap_16 ?_
    rw [hn, e3]
    refine wv_goto (tgt := 21) dX8_wrap_17 (by decide) ?_
    refine wv_iret rfl dX8_wrap_21 ?_
    exact ⟨rfl, rfl, rfl, rfl, rfl⟩

set_option maxHeartbeats 4000000 in
set_option maxRecDepth 100000 in
theorem x_seenL {l : Launch} {I : wr_TI} {L : wr_TL} {R : wr_TR} (r n s se : Nat) (hr : SH[r]? = some (.inl (0, 40))) (hn : I 55 28 = nI n) (h6 : 6 ≤ n) (h40 : n ≤ 40) (hs : s < n) (hse : se ≤ 9) : wr_E l 1 mX8_seen [.ref 55, .ref r, .int (nI s), .int (-1), .int (nI se)] SH I L R (some (.int (nI (sL (fun u => decide (I r u = 1)) n s (min se ((n - 1) / 2)))))) I L R := by
  have em : (nI n - 1) / 2 = nI ((n - 1) / 2) := by
    rw [show nI n - 1 = nI (n - 1) from pk_sub (b := 1) (by omega)]
    exact pk_div (d := 2) (by omega) (by omega) (by omega)
  have lp0 : ∀ m, m < n → wr_V l 1 mX8_seen 34 [some (.ref 55), some (.ref r), some (.int (nI s)), some (.int (-1)), none, some (.int (nI m)), some (.int (nI (sL (fun u => decide (I r u = 1)) n s 0))), some (.int (nI (0 + 1)))] [] SH I L R 0 0 (fun v s' I' L' R' => v = some (.int (nI (sL (fun u => decide (I r u = 1)) n s m))) ∧ s' = SH ∧ I' = I ∧ L' = L ∧ R' = R) := by
    intro m hm
    have lp : ∀ (k i : Nat), i + k = m → wr_V l 1 mX8_seen 34 [some (.ref 55), some (.ref r), some (.int (nI s)), some (.int (-1)), none, some (.int (nI m)), some (.int (nI (sL (fun u => decide (I r u = 1)) n s i))), some (.int (nI (i + 1)))] [] SH I L R 0 0 (fun v s' I' L' R' => v = some (.int (nI (sL (fun u => decide (I r u = 1)) n s m))) ∧ s' = SH ∧ I' = I ∧ L' = L ∧ R' = R) := by
      intro k
      induction k with
      | zero =>
        intro i hi
        obtain rfl : i = m := by omega
        refine wv_iload dX8_seen_34 rfl ?_
        refine wv_iload dX8_seen_36 rfl ?_
        refine wv_icmp_gt (tgt := 73) dX8_seen_38 (by decide) (fun h38 => ?_) (fun h38 => absurd (nI_lt (by omega) (by omega)) h38)
        refine wv_iload dX8_seen_73 rfl ?_
        refine wv_iret rfl dX8_seen_75 ?_
        exact ⟨rfl, rfl, rfl, rfl, rfl⟩
      | succ k ih =>
        intro i hi
        have hlt : (s + n - (i + 1)) % n < 40 := Nat.lt_of_lt_of_le (Nat.mod_lt _ (by omega)) h40
        refine wv_iload dX8_seen_34 rfl ?_
        refine wv_iload dX8_seen_36 rfl ?_
        refine wv_icmp_gt (tgt := 73) dX8_seen_38 (by decide) (fun h38 => absurd h38 (nI_nlt (by omega) (by omega))) (fun h38 => ?_)
        refine wv_iload dX8_seen_41 rfl ?_
        refine wv_aload_n dX8_seen_43 rfl ?_
        refine wv_aload_n dX8_seen_44 rfl ?_
        refine wv_iload_n dX8_seen_45 rfl ?_
        refine wv_iload_n dX8_seen_46 rfl ?_
        refine wv_iload dX8_seen_47 rfl ?_
        refine wv_imul dX8_seen_49 ?_
        refine wv_iadd dX8_seen_50 ?_
        refine wv_v1e oX8_wrap kX8_396 dX8_seen_51 (by omega) (by first | assumption | rfl) ⟨rfl, by decide⟩ (Nat.le_of_ble_eq_true rfl) (Nat.le_of_ble_eq_true rfl) (x_wrapS n s (i + 1) hn h40 hs (by omega)) ?_
        refine wv_ialdN dX8_seen_54 (by first | assumption | rfl) (by omega) (by decide) ?_
        refine wv_iconst (v := 1) dX8_seen_55 (by decide) ?_
        refine wv_icmp_ne (tgt := 63) dX8_seen_56 (by decide) (fun h56 => ?_) (fun h56 => ?_)
        · have e : nI (sL (fun u => decide (I r u = 1)) n s i) + 0 = nI (sL (fun u => decide (I r u = 1)) n s (i + 1)) := by simp [sL, cn, h56]
          refine wv_iconst (v := 0) dX8_seen_63 (by decide) ?_
          refine wv_iadd dX8_seen_64 ?_
          rw [e]
          refine wv_istore dX8_seen_65 (by decide) ?_
          refine wv_iinc (v := nI (i + 1 + 1)) dX8_seen_67 rfl (nI_1 (i + 1)) (by decide) ?_
          refine wv_goto (tgt := 34) dX8_seen_70 (by decide) ?_
          exact wv_le (by simp [wr_leq, wr_s1, wr_s2, wr_wide]) (ih (i + 1) (by omega))
        · have e : nI (sL (fun u => decide (I r u = 1)) n s i) + 1 = nI (sL (fun u => decide (I r u = 1)) n s (i + 1)) := by simp [sL, cn, h56]; exact nI_1 _
          refine wv_iconst (v := 1) dX8_seen_59 (by decide) ?_
          refine wv_goto (tgt := 64) dX8_seen_60 (by decide) ?_
          refine wv_iadd dX8_seen_64 ?_
          rw [e]
          refine wv_istore dX8_seen_65 (by decide) ?_
          refine wv_iinc (v := nI (i + 1 + 1)) dX8_seen_67 rfl (nI_1 (i + 1)) (by decide) ?_
          refine wv_goto (tgt := 34) dX8_seen_70 (by decide) ?_
          exact wv_le (by simp [wr_leq, wr_s1, wr_s2, wr_wide]) (ih (i + 1) (by omega))
    exact lp m 0 (by omega)
  refine wv_pad 3 ?_
  show wr_V l 1 mX8_seen 0 [some (.ref 55), some (.ref r), some (.int (nI s)), some (.int (-1)), some (.int (nI se)), none, none, none] [] SH I L R 0 0 _
  refine wv_iload dX8_seen_0 rfl ?_
  refine wv_aload_n dX8_seen_2 rfl ?_
  refine wv_getI fX8_151 dX8_seen_3 rfl (by first | assumption | rfl) ?_
  refine wv_iconst (v := 1) dX8_seen_6 (by decide) ?_
  refine wv_isub dX8_seen_7 ?_
  refine wv_iconst (v := 2) dX8_seen_8 (by decide) ?_
  refine wv_idiv dX8_seen_9 (by decide) ?_
  rw [hn, em]
  refine wv_icmp_ge (tgt := 18) dX8_seen_10 (by decide) (fun h10 => ?_) (fun h10 => ?_)
  · have hc : (n - 1) / 2 ≤ se := (nI_leI (by omega) (by omega)).mp h10
    rw [Nat.min_eq_right hc]
    refine wv_aload_n dX8_seen_18 rfl ?_
    refine wv_getI fX8_151 dX8_seen_19 rfl (by first | assumption | rfl) ?_
    refine wv_iconst (v := 1) dX8_seen_22 (by decide) ?_
    refine wv_isub dX8_seen_23 ?_
    refine wv_iconst (v := 2) dX8_seen_24 (by decide) ?_
    refine wv_idiv dX8_seen_25 (by decide) ?_
    try rw [hn, em]
    refine wv_istore dX8_seen_26 (by decide) ?_
    refine wv_iconst (v := nI (sL (fun u => decide (I r u = 1)) n s 0)) dX8_seen_28 rfl ?_
    refine wv_istore dX8_seen_29 (by decide) ?_
    refine wv_iconst (v := nI (0 + 1)) dX8_seen_31 rfl ?_
    refine wv_istore dX8_seen_32 (by decide) ?_
    exact wv_le (by simp [wr_leq, wr_s1, wr_s2, wr_wide]) (lp0 _ (by omega))
  · have hc : ¬ (n - 1) / 2 ≤ se := fun z => h10 (nI_le z (by omega))
    rw [Nat.min_eq_left (by omega)]
    refine wv_iload dX8_seen_13 rfl ?_
    refine wv_goto (tgt := 26) dX8_seen_15 (by decide) ?_
    try rw [hn, em]
    refine wv_istore dX8_seen_26 (by decide) ?_
    refine wv_iconst (v := nI (sL (fun u => decide (I r u = 1)) n s 0)) dX8_seen_28 rfl ?_
    refine wv_istore dX8_seen_29 (by decide) ?_
    refine wv_iconst (v := nI (0 + 1)) dX8_seen_31 rfl ?_
    refine wv_istore dX8_seen_32 (by decide) ?_
    exact wv_le (by simp [wr_leq, wr_s1, wr_s2, wr_wide]) (lp0 _ (by omega))

set_option maxHeartbeats 4000000 in
set_option maxRecDepth 100000 in
theorem x_seenR {l : Launch} {I : wr_TI} {L : wr_TL} {R : wr_TR} (r n s se : Nat) (hr : SH[r]? = some (.inl (0, 40))) (hn : I 55 28 = nI n) (h6 : 6 ≤ n) (h40 : n ≤ 40) (hs : s < n) (hse : se ≤ 9) : wr_E l 1 mX8_seen [.ref 55, .ref r, .int (nI s), .int 1, .int (nI se)] SH I L R (some (.int (nI (sR (fun u => decide (I r u = 1)) n s (min se ((n - 1) / 2)))))) I L R := by
  have em : (nI n - 1) / 2 = nI ((n - 1) / 2) := by
    rw [show nI n - 1 = nI (n - 1) from pk_sub (b := 1) (by omega)]
    exact pk_div (d := 2) (by omega) (by omega) (by omega)
  have lp0 : ∀ m, m < n → wr_V l 1 mX8_seen 34 [some (.ref 55), some (.ref r), some (.int (nI s)), some (.int 1), none, some (.int (nI m)), some (.int (nI (sR (fun u => decide (I r u = 1)) n s 0))), some (.int (nI (0 + 1)))] [] SH I L R 0 0 (fun v s' I' L' R' => v = some (.int (nI (sR (fun u => decide (I r u = 1)) n s m))) ∧ s' = SH ∧ I' = I ∧ L' = L ∧ R' = R) := by
    intro m hm
    have lp : ∀ (k i : Nat), i + k = m → wr_V l 1 mX8_seen 34 [some (.ref 55), some (.ref r), some (.int (nI s)), some (.int 1), none, some (.int (nI m)), some (.int (nI (sR (fun u => decide (I r u = 1)) n s i))), some (.int (nI (i + 1)))] [] SH I L R 0 0 (fun v s' I' L' R' => v = some (.int (nI (sR (fun u => decide (I r u = 1)) n s m))) ∧ s' = SH ∧ I' = I ∧ L' = L ∧ R' = R) := by
      intro k
      induction k with
      | zero =>
        intro i hi
        obtain rfl : i = m := by omega
        refine wv_iload dX8_seen_34 rfl ?_
        refine wv_iload dX8_seen_36 rfl ?_
        refine wv_icmp_gt (tgt := 73) dX8_seen_38 (by decide) (fun h38 => ?_) (fun h38 => absurd (nI_lt (by omega) (by omega)) h38)
        refine wv_iload dX8_seen_73 rfl ?_
        refine wv_iret rfl dX8_seen_75 ?_
        exact ⟨rfl, rfl, rfl, rfl, rfl⟩
      | succ k ih =>
        intro i hi
        have hlt : (s + (i + 1)) % n < 40 := Nat.lt_of_lt_of_le (Nat.mod_lt _ (by omega)) h40
        have eR : nI s + 1 * nI (i + 1) = nI (s + (i + 1)) := by rw [Int32.one_mul, nI_add]
        refine wv_iload dX8_seen_34 rfl ?_
        refine wv_iload dX8_seen_36 rfl ?_
        refine wv_icmp_gt (tgt := 73) dX8_seen_38 (by decide) (fun h38 => absurd h38 (nI_nlt (by omega) (by omega))) (fun h38 => ?_)
        refine wv_iload dX8_seen_41 rfl ?_
        refine wv_aload_n dX8_seen_43 rfl ?_
        refine wv_aload_n dX8_seen_44 rfl ?_
        refine wv_iload_n dX8_seen_45 rfl ?_
        refine wv_iload_n dX8_seen_46 rfl ?_
        refine wv_iload dX8_seen_47 rfl ?_
        refine wv_imul dX8_seen_49 ?_
        refine wv_iadd dX8_seen_50 ?_
        rw [eR]
        refine wv_v1e oX8_wrap kX8_396 dX8_seen_51 (by omega) (by first | assumption | rfl) ⟨rfl, by decide⟩ (Nat.le_of_ble_eq_true rfl) (Nat.le_of_ble_eq_true rfl) (x_wrap n (s + (i + 1)) hn (by omega) h40 (by omega)) ?_
        refine wv_ialdN dX8_seen_54 (by first | assumption | rfl) (by omega) (by decide) ?_
        refine wv_iconst (v := 1) dX8_seen_55 (by decide) ?_
        refine wv_icmp_ne (tgt := 63) dX8_seen_56 (by decide) (fun h56 => ?_) (fun h56 => ?_)
        · have e : nI (sR (fun u => decide (I r u = 1)) n s i) + 0 = nI (sR (fun u => decide (I r u = 1)) n s (i + 1)) := by simp [sR, cn, h56]
          refine wv_iconst (v := 0) dX8_seen_63 (by decide) ?_
          refine wv_iadd dX8_seen_64 ?_
          rw [e]
          refine wv_istore dX8_seen_65 (by decide) ?_
          refine wv_iinc (v := nI (i + 1 + 1)) dX8_seen_67 rfl (nI_1 (i + 1)) (by decide) ?_
          refine wv_goto (tgt := 34) dX8_seen_70 (by decide) ?_
          exact wv_le (by simp [wr_leq, wr_s1, wr_s2, wr_wide]) (ih (i + 1) (by omega))
        · have e : nI (sR (fun u => decide (I r u = 1)) n s i) + 1 = nI (sR (fun u => decide (I r u = 1)) n s (i + 1)) := by simp [sR, cn, h56]; exact nI_1 _
          refine wv_iconst (v := 1) dX8_seen_59 (by decide) ?_
          refine wv_goto (tgt := 64) dX8_seen_60 (by decide) ?_
          refine wv_iadd dX8_seen_64 ?_
          rw [e]
          refine wv_istore dX8_seen_65 (by decide) ?_
          refine wv_iinc (v := nI (i + 1 + 1)) dX8_seen_67 rfl (nI_1 (i + 1)) (by decide) ?_
          refine wv_goto (tgt := 34) dX8_seen_70 (by decide) ?_
          exact wv_le (by simp [wr_leq, wr_s1, wr_s2, wr_wide]) (ih (i + 1) (by omega))
    exact lp m 0 (by omega)
  refine wv_pad 3 ?_
  show wr_V l 1 mX8_seen 0 [some (.ref 55), some (.ref r), some (.int (nI s)), some (.int 1), some (.int (nI se)), none, none, none] [] SH I L R 0 0 _
  refine wv_iload dX8_seen_0 rfl ?_
  refine wv_aload_n dX8_seen_2 rfl ?_
  refine wv_getI fX8_151 dX8_seen_3 rfl (by first | assumption | rfl) ?_
  refine wv_iconst (v := 1) dX8_seen_6 (by decide) ?_
  refine wv_isub dX8_seen_7 ?_
  refine wv_iconst (v := 2) dX8_seen_8 (by decide) ?_
  refine wv_idiv dX8_seen_9 (by decide) ?_
  rw [hn, em]
  refine wv_icmp_ge (tgt := 18) dX8_seen_10 (by decide) (fun h10 => ?_) (fun h10 => ?_)
  · have hc : (n - 1) / 2 ≤ se := (nI_leI (by omega) (by omega)).mp h10
    rw [Nat.min_eq_right hc]
    refine wv_aload_n dX8_seen_18 rfl ?_
    refine wv_getI fX8_151 dX8_seen_19 rfl (by first | assumption | rfl) ?_
    refine wv_iconst (v := 1) dX8_seen_22 (by decide) ?_
    refine wv_isub dX8_seen_23 ?_
    refine wv_iconst (v := 2) dX8_seen_24 (by decide) ?_
    refine wv_idiv dX8_seen_25 (by decide) ?_
    try rw [hn, em]
    refine wv_istore dX8_seen_26 (by decide) ?_
    refine wv_iconst (v := nI (sR (fun u => decide (I r u = 1)) n s 0)) dX8_seen_28 rfl ?_
    refine wv_istore dX8_seen_29 (by decide) ?_
    refine wv_iconst (v := nI (0 + 1)) dX8_seen_31 rfl ?_
    refine wv_istore dX8_seen_32 (by decide) ?_
    exact wv_le (by simp [wr_leq, wr_s1, wr_s2, wr_wide]) (lp0 _ (by omega))
  · have hc : ¬ (n - 1) / 2 ≤ se := fun z => h10 (nI_le z (by omega))
    rw [Nat.min_eq_left (by omega)]
    refine wv_iload dX8_seen_13 rfl ?_
    refine wv_goto (tgt := 26) dX8_seen_15 (by decide) ?_
    try rw [hn, em]
    refine wv_istore dX8_seen_26 (by decide) ?_
    refine wv_iconst (v := nI (sR (fun u => decide (I r u = 1)) n s 0)) dX8_seen_28 rfl ?_
    refine wv_istore dX8_seen_29 (by decide) ?_
    refine wv_iconst (v := nI (0 + 1)) dX8_seen_31 rfl ?_
    refine wv_istore dX8_seen_32 (by decide) ?_
    exact wv_le (by simp [wr_leq, wr_s1, wr_s2, wr_wide]) (lp0 _ (by omega))

