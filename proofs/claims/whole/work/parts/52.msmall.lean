/-! the model: small words -/
theorem rem_of {x : Int32} {a n : Nat} (h : x = nI a) (ha : a < 2 ^ 31) (hn : 0 < n) (h2 : n < 2 ^ 31) : x - x / nI n * nI n = nI (a % n) := by rw [h]; exact pk_rem ha hn h2
set_option maxHeartbeats 4000000 in
set_option maxRecDepth 100000 in
theorem x_isUp {l : Launch} {I : wr_TI} {L : wr_TL} {R : wr_TR} (v : Int32) : wr_E l 0 mX8_isUp [.int v] SH I L R (some (.int (if isU v = true then 1 else 0))) I L R := by
  refine wv_pad 0 ?_
  show wr_V l 0 mX8_isUp 0 [some (.int v)] [] SH I L R 0 0 _
  refine wv_iload_n dX8_isUp_0 rfl ?_
  refine wv_iconst (v := 1) dX8_isUp_1 (by decide) ?_
  refine wv_icmp_lt (tgt := 15) dX8_isUp_2 (by decide) (fun h2 => ?_) (fun h2 => ?_)
  · refine wv_iconst (v := 0) dX8_isUp_15 (by decide) ?_
    refine wv_zret rfl rfl dX8_isUp_16 ?_
    refine ⟨?_, rfl, rfl, rfl, rfl⟩
    unfold isU
    first | (rw [if_pos (by simp; grind)]; done) | (rw [if_neg (by simp; grind)]; done)
  · refine wv_iload_n dX8_isUp_5 rfl ?_
    refine wv_bipush (v := 9) dX8_isUp_6 (by decide) ?_
    refine wv_icmp_gt (tgt := 15) dX8_isUp_8 (by decide) (fun h8 => ?_) (fun h8 => ?_)
    · refine wv_iconst (v := 0) dX8_isUp_15 (by decide) ?_
      refine wv_zret rfl rfl dX8_isUp_16 ?_
      refine ⟨?_, rfl, rfl, rfl, rfl⟩
      unfold isU
      first | (rw [if_pos (by simp; grind)]; done) | (rw [if_neg (by simp; grind)]; done)
    · refine wv_iconst (v := 1) dX8_isUp_11 (by decide) ?_
      refine wv_goto (tgt := 16) dX8_isUp_12 (by decide) ?_
      refine wv_zret rfl rfl dX8_isUp_16 ?_
      refine ⟨?_, rfl, rfl, rfl, rfl⟩
      unfold isU
      first | (rw [if_pos (by simp; grind)]; done) | (rw [if_neg (by simp; grind)]; done)

set_option maxHeartbeats 4000000 in
set_option maxRecDepth 100000 in
theorem x_behind {l : Launch} {I : wr_TI} {L : wr_TL} {R : wr_TR} (v up rest : Int32) : wr_E l 1 mX8_behind [.int v, .int up, .int rest] SH I L R (some (.int (beh up rest v))) I L R := by
  refine wv_pad 0 ?_
  show wr_V l 1 mX8_behind 0 [some (.int v), some (.int up), some (.int rest)] [] SH I L R 0 0 _
  refine wv_iload_n dX8_behind_0 rfl ?_
  refine wv_s1e oX8_isUp kX8_393 dX8_behind_1 (by omega) (Nat.le_of_ble_eq_true rfl) (Nat.le_of_ble_eq_true rfl) (x_isUp _) ?_
  refine wv_if_eq (tgt := 29) dX8_behind_4 (by decide) (fun h4 => ?_) (fun h4 => ?_)
  · rw [if10] at h4
    refine wv_iload_n dX8_behind_29 rfl ?_
    refine wv_bipush (v := 10) dX8_behind_30 (by decide) ?_
    refine wv_icmp_le (tgt := 57) dX8_behind_32 (by decide) (fun h32 => ?_) (fun h32 => ?_)
    · refine wv_iload_n dX8_behind_57 rfl ?_
      refine wv_iret rfl dX8_behind_58 ?_
      refine ⟨?_, rfl, rfl, rfl, rfl⟩
      unfold beh
      grind
    · refine wv_iload_n dX8_behind_35 rfl ?_
      refine wv_bipush (v := 40) dX8_behind_36 (by decide) ?_
      refine wv_icmp_ge (tgt := 57) dX8_behind_38 (by decide) (fun h38 => ?_) (fun h38 => ?_)
      · refine wv_iload_n dX8_behind_57 rfl ?_
        refine wv_iret rfl dX8_behind_58 ?_
        refine ⟨?_, rfl, rfl, rfl, rfl⟩
        unfold beh
        grind
      · refine wv_iload_n dX8_behind_41 rfl ?_
        refine wv_bipush (v := 10) dX8_behind_42 (by decide) ?_
        refine wv_iload_n dX8_behind_44 rfl ?_
        refine wv_iadd dX8_behind_45 ?_
        refine wv_icmp_ge (tgt := 55) dX8_behind_46 (by decide) (fun h46 => ?_) (fun h46 => ?_)
        · refine wv_iconst (v := 0) dX8_behind_55 (by decide) ?_
          refine wv_iret rfl dX8_behind_56 ?_
          refine ⟨?_, rfl, rfl, rfl, rfl⟩
          unfold beh
          grind
        · refine wv_iload_n dX8_behind_49 rfl ?_
          refine wv_iconst (v := 1) dX8_behind_50 (by decide) ?_
          refine wv_iadd dX8_behind_51 ?_
          refine wv_goto (tgt := 56) dX8_behind_52 (by decide) ?_
          refine wv_iret rfl dX8_behind_56 ?_
          refine ⟨?_, rfl, rfl, rfl, rfl⟩
          unfold beh
          grind
  · rw [if10, Decidable.not_not] at h4
    refine wv_iload_n dX8_behind_7 rfl ?_
    refine wv_iload_n dX8_behind_8 rfl ?_
    refine wv_icmp_ge (tgt := 18) dX8_behind_9 (by decide) (fun h9 => ?_) (fun h9 => ?_)
    · refine wv_iload_n dX8_behind_18 rfl ?_
      refine wv_if_le (tgt := 27) dX8_behind_19 (by decide) (fun h19 => ?_) (fun h19 => ?_)
      · refine wv_iconst (v := 0) dX8_behind_27 (by decide) ?_
        refine wv_iret rfl dX8_behind_28 ?_
        refine ⟨?_, rfl, rfl, rfl, rfl⟩
        unfold beh
        grind
      · refine wv_bipush (v := 11) dX8_behind_22 (by decide) ?_
        refine wv_goto (tgt := 28) dX8_behind_24 (by decide) ?_
        refine wv_iret rfl dX8_behind_28 ?_
        refine ⟨?_, rfl, rfl, rfl, rfl⟩
        unfold beh
        grind
    · refine wv_iload_n dX8_behind_12 rfl ?_
      refine wv_iconst (v := 1) dX8_behind_13 (by decide) ?_
      refine wv_iadd dX8_behind_14 ?_
      refine wv_goto (tgt := 28) dX8_behind_15 (by decide) ?_
      refine wv_iret rfl dX8_behind_28 ?_
      refine ⟨?_, rfl, rfl, rfl, rfl⟩
      unfold beh
      grind

set_option maxHeartbeats 4000000 in
set_option maxRecDepth 100000 in
theorem x_isSeat {l : Launch} {I : wr_TI} {L : wr_TL} {R : wr_TR} (x : Int32) : wr_E l 0 mX8_isSeat [.ref 55, .int x] SH I L R (some (.int (if 0 ≤ x ∧ x < I 55 28 then 1 else 0))) I L R := by
  refine wv_pad 0 ?_
  show wr_V l 0 mX8_isSeat 0 [some (.ref 55), some (.int x)] [] SH I L R 0 0 _
  refine wv_iload_n dX8_isSeat_0 rfl ?_
  refine wv_if_lt (tgt := 16) dX8_isSeat_1 (by decide) (fun h1 => ?_) (fun h1 => ?_)
  · refine wv_iconst (v := 0) dX8_isSeat_16 (by decide) ?_
    refine wv_zret rfl rfl dX8_isSeat_17 ?_
    refine ⟨?_, rfl, rfl, rfl, rfl⟩
    first | (rw [if_pos (by grind)]; done) | (rw [if_neg (by grind)]; done)
  · refine wv_iload_n dX8_isSeat_4 rfl ?_
    refine wv_aload_n dX8_isSeat_5 rfl ?_
    refine wv_getI fX8_151 dX8_isSeat_6 rfl (by first | assumption | rfl) ?_
    refine wv_icmp_ge (tgt := 16) dX8_isSeat_9 (by decide) (fun h9 => ?_) (fun h9 => ?_)
    · refine wv_iconst (v := 0) dX8_isSeat_16 (by decide) ?_
      refine wv_zret rfl rfl dX8_isSeat_17 ?_
      refine ⟨?_, rfl, rfl, rfl, rfl⟩
      first | (rw [if_pos (by grind)]; done) | (rw [if_neg (by grind)]; done)
    · refine wv_iconst (v := 1) dX8_isSeat_12 (by decide) ?_
      refine wv_goto (tgt := 17) dX8_isSeat_13 (by decide) ?_
      refine wv_zret rfl rfl dX8_isSeat_17 ?_
      refine ⟨?_, rfl, rfl, rfl, rfl⟩
      first | (rw [if_pos (by grind)]; done) | (rw [if_neg (by grind)]; done)

set_option maxHeartbeats 4000000 in
set_option maxRecDepth 100000 in
theorem x_isMany {l : Launch} {I : wr_TI} {L : wr_TL} {R : wr_TR} (x : Int32) : wr_E l 0 mX8_isMany [.ref 55, .int x] SH I L R (some (.int (if 1 ≤ x ∧ x ≤ 12 ∧ x ≤ I 55 28 then 1 else 0))) I L R := by
  refine wv_pad 0 ?_
  show wr_V l 0 mX8_isMany 0 [some (.ref 55), some (.int x)] [] SH I L R 0 0 _
  refine wv_iload_n dX8_isMany_0 rfl ?_
  refine wv_iconst (v := 1) dX8_isMany_1 (by decide) ?_
  refine wv_icmp_lt (tgt := 23) dX8_isMany_2 (by decide) (fun h2 => ?_) (fun h2 => ?_)
  · refine wv_iconst (v := 0) dX8_isMany_23 (by decide) ?_
    refine wv_zret rfl rfl dX8_isMany_24 ?_
    refine ⟨?_, rfl, rfl, rfl, rfl⟩
    first | (rw [if_pos (by grind)]; done) | (rw [if_neg (by grind)]; done)
  · refine wv_iload_n dX8_isMany_5 rfl ?_
    refine wv_bipush (v := 12) dX8_isMany_6 (by decide) ?_
    refine wv_icmp_gt (tgt := 23) dX8_isMany_8 (by decide) (fun h8 => ?_) (fun h8 => ?_)
    · refine wv_iconst (v := 0) dX8_isMany_23 (by decide) ?_
      refine wv_zret rfl rfl dX8_isMany_24 ?_
      refine ⟨?_, rfl, rfl, rfl, rfl⟩
      first | (rw [if_pos (by grind)]; done) | (rw [if_neg (by grind)]; done)
    · refine wv_iload_n dX8_isMany_11 rfl ?_
      refine wv_aload_n dX8_isMany_12 rfl ?_
      refine wv_getI fX8_151 dX8_isMany_13 rfl (by first | assumption | rfl) ?_
      refine wv_icmp_gt (tgt := 23) dX8_isMany_16 (by decide) (fun h16 => ?_) (fun h16 => ?_)
      · refine wv_iconst (v := 0) dX8_isMany_23 (by decide) ?_
        refine wv_zret rfl rfl dX8_isMany_24 ?_
        refine ⟨?_, rfl, rfl, rfl, rfl⟩
        first | (rw [if_pos (by grind)]; done) | (rw [if_neg (by grind)]; done)
      · refine wv_iconst (v := 1) dX8_isMany_19 (by decide) ?_
        refine wv_goto (tgt := 24) dX8_isMany_20 (by decide) ?_
        refine wv_zret rfl rfl dX8_isMany_24 ?_
        refine ⟨?_, rfl, rfl, rfl, rfl⟩
        first | (rw [if_pos (by grind)]; done) | (rw [if_neg (by grind)]; done)

set_option maxHeartbeats 4000000 in
set_option maxRecDepth 100000 in
theorem x_wrap {l : Launch} {I : wr_TI} {L : wr_TL} {R : wr_TR} (n a : Nat) (hn : I 55 28 = nI n) (h0 : 0 < n) (h40 : n ≤ 40) (ha : a < 2 ^ 31) : wr_E l 0 mX8_wrap [.ref 55, .int (nI a)] SH I L R (some (.int (nI (a % n)))) I L R := by
  have hm := Nat.mod_lt a h0
  refine wv_pad 1 ?_
  show wr_V l 0 mX8_wrap 0 [some (.ref 55), some (.int (nI a)), none] [] SH I L R 0 0 _
  refine wv_iload_n dX8_wrap_0 rfl ?_
  refine wv_aload_n dX8_wrap_1 rfl ?_
  refine wv_getI fX8_151 dX8_wrap_2 rfl (by first | assumption | rfl) ?_
  refine wv_irem dX8_wrap_5 (by rw [hn]; exact nI_ne0 h0 (by omega)) ?_
  rw [hn, rem_of rfl ha h0 (by omega)]
  refine wv_istore_k (i := 2) dX8_wrap_6 rfl (by decide) ?_
  refine wv_iload_n dX8_wrap_7 rfl ?_
  refine wv_if_ge (tgt := 20) dX8_wrap_8 (by decide) (fun h8 => ?_) (fun h8 => absurd (nI_pos' (by omega)) h8)
  refine wv_iload_n dX8_wrap_20 rfl ?_
  refine wv_iret rfl dX8_wrap_21 ?_
  exact ⟨rfl, rfl, rfl, rfl, rfl⟩

set_option maxHeartbeats 4000000 in
set_option maxRecDepth 100000 in
theorem x_ups {l : Launch} {I : wr_TI} {L : wr_TL} {R : wr_TR} (hR : wr_RC R) (n : Nat) (hn : I 55 28 = nI n) (h40 : n ≤ 40) : wr_E l 1 mX8_ups [.ref 55] SH I L R (some (.int (nI (cn (fun s => isU (I 75 s)) n)))) I L R := by
  have lp : ∀ (k i : Nat), i + k = n → wr_V l 1 mX8_ups 4 [some (.ref 55), some (.int (nI (cn (fun s => isU (I 75 s)) i))), some (.int (nI i))] [] SH I L R 0 0 (fun v s' I' L' R' => v = some (.int (nI (cn (fun s => isU (I 75 s)) n))) ∧ s' = SH ∧ I' = I ∧ L' = L ∧ R' = R) := by
    intro k
    induction k with
    | zero =>
      intro i hi
      obtain rfl : i = n := by omega
      refine wv_iload_n dX8_ups_4 rfl ?_
      refine wv_aload_n dX8_ups_5 rfl ?_
      refine wv_getI fX8_151 dX8_ups_6 rfl (by first | assumption | rfl) ?_
      refine wv_icmp_ge (tgt := 38) dX8_ups_9 (by decide) (fun h9 => ?_) (fun h9 => absurd (by rw [hn]; exact Int32.le_refl _) h9)
      refine wv_iload_n dX8_ups_38 rfl ?_
      refine wv_iret rfl dX8_ups_39 ?_
      exact ⟨rfl, rfl, rfl, rfl, rfl⟩
    | succ k ih =>
      intro i hi
      refine wv_iload_n dX8_ups_4 rfl ?_
      refine wv_aload_n dX8_ups_5 rfl ?_
      refine wv_getI fX8_151 dX8_ups_6 rfl (by first | assumption | rfl) ?_
      refine wv_icmp_ge (tgt := 38) dX8_ups_9 (by decide) (fun h9 => absurd h9 (by rw [hn]; exact nI_ge (by omega) (by omega))) (fun h9 => ?_)
      refine wv_iload_n dX8_ups_12 rfl ?_
      refine wv_aload_n dX8_ups_13 rfl ?_
      refine wv_getR fX8_72 dX8_ups_14 rfl (by first | assumption | rfl) (by first | exact hR _ _ _ rfl | assumption) ?_
      refine wv_iload_n dX8_ups_17 rfl ?_
      refine wv_ialdN dX8_ups_18 (by first | assumption | rfl) (by omega) (by decide) ?_
      refine wv_s1e oX8_isUp kX8_393 dX8_ups_19 (by omega) (Nat.le_of_ble_eq_true rfl) (Nat.le_of_ble_eq_true rfl) (x_isUp _) ?_
      refine wv_if_eq (tgt := 29) dX8_ups_22 (by decide) (fun h22 => ?_) (fun h22 => ?_)
      · rw [if10] at h22
        have e : nI (cn (fun s => isU (I 75 s)) i) + 0 = nI (cn (fun s => isU (I 75 s)) (i + 1)) := by simp [cn, h22]
        refine wv_iconst (v := 0) dX8_ups_29 (by decide) ?_
        refine wv_iadd dX8_ups_30 ?_
        rw [e]
        refine wv_istore_k (i := 1) dX8_ups_31 rfl (by decide) ?_
        refine wv_iinc (v := nI (i + 1)) dX8_ups_32 rfl (nI_1 (i)) (by decide) ?_
        refine wv_goto (tgt := 4) dX8_ups_35 (by decide) ?_
        exact wv_le (by simp [wr_leq, wr_s1, wr_s2, wr_wide]) (ih (i + 1) (by omega))
      · rw [if10, Decidable.not_not] at h22
        have e : nI (cn (fun s => isU (I 75 s)) i) + 1 = nI (cn (fun s => isU (I 75 s)) (i + 1)) := by simp [cn, h22]; exact nI_1 _
        refine wv_iconst (v := 1) dX8_ups_25 (by decide) ?_
        refine wv_goto (tgt := 30) dX8_ups_26 (by decide) ?_
        refine wv_iadd dX8_ups_30 ?_
        rw [e]
        refine wv_istore_k (i := 1) dX8_ups_31 rfl (by decide) ?_
        refine wv_iinc (v := nI (i + 1)) dX8_ups_32 rfl (nI_1 (i)) (by decide) ?_
        refine wv_goto (tgt := 4) dX8_ups_35 (by decide) ?_
        exact wv_le (by simp [wr_leq, wr_s1, wr_s2, wr_wide]) (ih (i + 1) (by omega))
  refine wv_pad 2 ?_
  show wr_V l 1 mX8_ups 0 [some (.ref 55), none, none] [] SH I L R 0 0 _
  refine wv_iconst (v := nI (cn (fun s => isU (I 75 s)) 0)) dX8_ups_0 rfl ?_
  refine wv_istore_k (i := 1) dX8_ups_1 rfl (by decide) ?_
  refine wv_iconst (v := nI 0) dX8_ups_2 rfl ?_
  refine wv_istore_k (i := 2) dX8_ups_3 rfl (by decide) ?_
  exact wv_le (by simp [wr_leq, wr_s1, wr_s2, wr_wide]) (lp n 0 (by omega))

