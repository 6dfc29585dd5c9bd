/-! Math.min's words; class Ring -/
set_option maxRecDepth 20000 in
theorem wr_min1 : Cond.static Lib.Math.min.name ∈ wr_TG := wr_in 502 rfl rfl
set_option maxRecDepth 20000 in
theorem wr_min2 : Cond.initialized "java/lang/Math" ∈ wr_TG := wr_in 14 rfl rfl
set_option maxRecDepth 20000 in
theorem wr_min3 : Cond.code Lib.Math.min.name Lib.Math.min.code 2 (some .int) ∈ wr_TG := wr_in 503 rfl rfl
set_option maxRecDepth 20000 in
theorem qX5_70 : Cond.methodLink RX5 70 Lib.Math.min.name ∈ wr_TG := wr_in 501 rfl rfl
set_option maxHeartbeats 4000000 in
set_option maxRecDepth 100000 in
theorem cJ_bits {l : Launch} {I : wr_TI} {L : wr_TL} {R : wr_TR} (x : Int64) : wr_E l 0 mJ13_bitCount_95d88 [.long x] SH I L R (some (.int (nI (cn (lb x) 64)))) I L R := by
  rw [← pc_E_eq]
  refine wv_pad 0 ?_
  show wr_V l 0 mJ13_bitCount_95d88 0 [some (.long x), none] [] SH I L R 0 0 _
  refine wv_lload_n dJ13_bitCount_95d88_0 rfl ?_
  refine wv_lload_n dJ13_bitCount_95d88_1 rfl ?_
  refine wv_iconst (v := 1) dJ13_bitCount_95d88_2 (by decide) ?_
  refine wv_lushr dJ13_bitCount_95d88_3 ?_
  refine wv_ldc2_w nJ13_314 dJ13_bitCount_95d88_4 ?_
  refine wv_land dJ13_bitCount_95d88_7 ?_
  refine wv_lsub dJ13_bitCount_95d88_8 ?_
  refine wv_lstore_k (i := 0) dJ13_bitCount_95d88_9 rfl (by decide) ?_
  refine wv_lload_n dJ13_bitCount_95d88_10 rfl ?_
  refine wv_ldc2_w nJ13_316 dJ13_bitCount_95d88_11 ?_
  refine wv_land dJ13_bitCount_95d88_14 ?_
  refine wv_lload_n dJ13_bitCount_95d88_15 rfl ?_
  refine wv_iconst (v := 2) dJ13_bitCount_95d88_16 (by decide) ?_
  refine wv_lushr dJ13_bitCount_95d88_17 ?_
  refine wv_ldc2_w nJ13_316 dJ13_bitCount_95d88_18 ?_
  refine wv_land dJ13_bitCount_95d88_21 ?_
  refine wv_ladd dJ13_bitCount_95d88_22 ?_
  refine wv_lstore_k (i := 0) dJ13_bitCount_95d88_23 rfl (by decide) ?_
  refine wv_lload_n dJ13_bitCount_95d88_24 rfl ?_
  refine wv_lload_n dJ13_bitCount_95d88_25 rfl ?_
  refine wv_iconst (v := 4) dJ13_bitCount_95d88_26 (by decide) ?_
  refine wv_lushr dJ13_bitCount_95d88_27 ?_
  refine wv_ladd dJ13_bitCount_95d88_28 ?_
  refine wv_ldc2_w nJ13_318 dJ13_bitCount_95d88_29 ?_
  refine wv_land dJ13_bitCount_95d88_32 ?_
  refine wv_lstore_k (i := 0) dJ13_bitCount_95d88_33 rfl (by decide) ?_
  refine wv_lload_n dJ13_bitCount_95d88_34 rfl ?_
  refine wv_lload_n dJ13_bitCount_95d88_35 rfl ?_
  refine wv_bipush (v := 8) dJ13_bitCount_95d88_36 (by decide) ?_
  refine wv_lushr dJ13_bitCount_95d88_38 ?_
  refine wv_ladd dJ13_bitCount_95d88_39 ?_
  refine wv_lstore_k (i := 0) dJ13_bitCount_95d88_40 rfl (by decide) ?_
  refine wv_lload_n dJ13_bitCount_95d88_41 rfl ?_
  refine wv_lload_n dJ13_bitCount_95d88_42 rfl ?_
  refine wv_bipush (v := 16) dJ13_bitCount_95d88_43 (by decide) ?_
  refine wv_lushr dJ13_bitCount_95d88_45 ?_
  refine wv_ladd dJ13_bitCount_95d88_46 ?_
  refine wv_lstore_k (i := 0) dJ13_bitCount_95d88_47 rfl (by decide) ?_
  refine wv_lload_n dJ13_bitCount_95d88_48 rfl ?_
  refine wv_lload_n dJ13_bitCount_95d88_49 rfl ?_
  refine wv_bipush (v := 32) dJ13_bitCount_95d88_50 (by decide) ?_
  refine wv_lushr dJ13_bitCount_95d88_52 ?_
  refine wv_ladd dJ13_bitCount_95d88_53 ?_
  refine wv_lstore_k (i := 0) dJ13_bitCount_95d88_54 rfl (by decide) ?_
  refine wv_lload_n dJ13_bitCount_95d88_55 rfl ?_
  refine wv_l2i dJ13_bitCount_95d88_56 ?_
  refine wv_bipush (v := 127) dJ13_bitCount_95d88_57 (by decide) ?_
  refine wv_iand dJ13_bitCount_95d88_59 ?_
  refine wv_iret rfl dJ13_bitCount_95d88_60 ?_
  exact ⟨rfl, rfl, rfl, rfl, rfl⟩

set_option maxHeartbeats 4000000 in
set_option maxRecDepth 100000 in
theorem cR_has {l : Launch} {I : wr_TI} {L : wr_TL} {R : wr_TR} (j : Nat) (x : Int32) (hs : SH[j]? = some (.inr 5)) : wr_E l 0 mX5_has [.ref j, .int x] SH I L R (some (.int (if 0 ≤ x ∧ x < I j 5 then 1 else 0))) I L R := by
  refine wv_pad 0 ?_
  show wr_V l 0 mX5_has 0 [some (.ref j), some (.int x)] [] SH I L R 0 0 _
  refine wv_iload_n dX5_has_0 rfl ?_
  refine wv_if_lt (tgt := 16) dX5_has_1 (by decide) (fun h1 => ?_) (fun h1 => ?_)
  · refine wv_iconst (v := 0) dX5_has_16 (by decide) ?_
    refine wv_zret rfl rfl dX5_has_17 ?_
    refine ⟨?_, rfl, rfl, rfl, rfl⟩
    simp only [Int32.le_iff_toInt_le, Int32.lt_iff_toInt_lt] at *
    split <;> first | rfl | (exfalso; omega)
  · refine wv_iload_n dX5_has_4 rfl ?_
    refine wv_aload_n dX5_has_5 rfl ?_
    refine wv_getI fX5_35 dX5_has_6 rfl (by first | assumption | rfl) ?_
    refine wv_icmp_ge (tgt := 16) dX5_has_9 (by decide) (fun h9 => ?_) (fun h9 => ?_)
    · refine wv_iconst (v := 0) dX5_has_16 (by decide) ?_
      refine wv_zret rfl rfl dX5_has_17 ?_
      refine ⟨?_, rfl, rfl, rfl, rfl⟩
      simp only [Int32.le_iff_toInt_le, Int32.lt_iff_toInt_lt] at *
      split <;> first | rfl | (exfalso; omega)
    · refine wv_iconst (v := 1) dX5_has_12 (by decide) ?_
      refine wv_goto (tgt := 17) dX5_has_13 (by decide) ?_
      refine wv_zret rfl rfl dX5_has_17 ?_
      refine ⟨?_, rfl, rfl, rfl, rfl⟩
      simp only [Int32.le_iff_toInt_le, Int32.lt_iff_toInt_lt] at *
      split <;> first | rfl | (exfalso; omega)

set_option maxHeartbeats 4000000 in
set_option maxRecDepth 100000 in
theorem cR_every {l : Launch} {I : wr_TI} {L : wr_TL} {R : wr_TR} (j : Nat) (hs : SH[j]? = some (.inr 5)) : wr_E l 0 mX5_everySeat [.ref j] SH I L R (some (.long ((1 <<< ((I j 5).toInt64 &&& 63)) - 1))) I L R := by
  refine wv_pad 0 ?_
  show wr_V l 0 mX5_everySeat 0 [some (.ref j)] [] SH I L R 0 0 _
  refine wv_lconst (v := 1) dX5_everySeat_0 (by decide) ?_
  refine wv_aload_n dX5_everySeat_1 rfl ?_
  refine wv_getI fX5_35 dX5_everySeat_2 rfl (by first | assumption | rfl) ?_
  refine wv_lshl dX5_everySeat_5 ?_
  refine wv_lconst (v := 1) dX5_everySeat_6 (by decide) ?_
  refine wv_lsub dX5_everySeat_7 ?_
  refine wv_lret rfl dX5_everySeat_8 ?_
  exact ⟨rfl, rfl, rfl, rfl, rfl⟩

def tu (n y : Int32) (x : Int64) : Int64 := (x <<< (y.toInt64 &&& 63) ||| us x (n - y)) &&& ((1 <<< (n.toInt64 &&& 63)) - 1)
set_option maxHeartbeats 4000000 in
set_option maxRecDepth 100000 in
theorem cR_turned {l : Launch} {I : wr_TI} {L : wr_TL} {R : wr_TR} (j : Nat) (x : Int64) (y : Int32) (hs : SH[j]? = some (.inr 5)) : wr_E l 1 mX5_turned [.ref j, .long x, .int y] SH I L R (some (.long (tu (I j 5) y x))) I L R := by
  refine wv_pad 0 ?_
  show wr_V l 1 mX5_turned 0 [some (.ref j), some (.long x), none, some (.int y)] [] SH I L R 0 0 _
  refine wv_lload_n dX5_turned_0 rfl ?_
  refine wv_iload_n dX5_turned_1 rfl ?_
  refine wv_lshl dX5_turned_2 ?_
  refine wv_lload_n dX5_turned_3 rfl ?_
  refine wv_aload_n dX5_turned_4 rfl ?_
  refine wv_getI fX5_35 dX5_turned_5 rfl (by first | assumption | rfl) ?_
  refine wv_iload_n dX5_turned_8 rfl ?_
  refine wv_isub dX5_turned_9 ?_
  refine wv_lushr dX5_turned_10 ?_
  refine wv_lor dX5_turned_11 ?_
  refine wv_aload_n dX5_turned_12 rfl ?_
  refine wv_v0e oX5_everySeat kX5_80 dX5_turned_13 (by omega) (by first | assumption | rfl) ⟨rfl, by decide⟩ (Nat.le_of_ble_eq_true rfl) (Nat.le_of_ble_eq_true rfl) (cR_every _ (by assumption)) ?_
  refine wv_land dX5_turned_16 ?_
  refine wv_lret rfl dX5_turned_17 ?_
  exact ⟨rfl, rfl, rfl, rfl, rfl⟩

def sf (n x k : Int32) : Int64 := tu n x ((1 <<< ((if n < k then n else k).toInt64 &&& 63)) - 1)
set_option maxHeartbeats 4000000 in
set_option maxRecDepth 100000 in
theorem cR_from {l : Launch} {I : wr_TI} {L : wr_TL} {R : wr_TR} (j : Nat) (x k : Int32) (hs : SH[j]? = some (.inr 5)) : wr_E l 2 mX5_seatsFrom [.ref j, .int x, .int k] SH I L R (some (.long (sf (I j 5) x k))) I L R := by
  refine wv_pad 0 ?_
  show wr_V l 2 mX5_seatsFrom 0 [some (.ref j), some (.int x), some (.int k)] [] SH I L R 0 0 _
  refine wv_aload_n dX5_seatsFrom_0 rfl ?_
  refine wv_lconst (v := 1) dX5_seatsFrom_1 (by decide) ?_
  refine wv_iload_n dX5_seatsFrom_2 rfl ?_
  refine wv_aload_n dX5_seatsFrom_3 rfl ?_
  refine wv_getI fX5_35 dX5_seatsFrom_4 rfl (by first | assumption | rfl) ?_
  refine wv_min qX5_70 wr_min1 wr_min2 wr_min3 dX5_seatsFrom_7 (by omega) (Nat.le_of_ble_eq_true rfl) ?_
  refine wv_lshl dX5_seatsFrom_10 ?_
  refine wv_lconst (v := 1) dX5_seatsFrom_11 (by decide) ?_
  refine wv_lsub dX5_seatsFrom_12 ?_
  refine wv_iload_n dX5_seatsFrom_13 rfl ?_
  refine wv_v2e oX5_turned kX5_76 dX5_seatsFrom_14 (by omega) (by first | assumption | rfl) ⟨rfl, by decide⟩ (Nat.le_of_ble_eq_true rfl) (Nat.le_of_ble_eq_true rfl) (cR_turned _ _ _ (by assumption)) ?_
  refine wv_lret rfl dX5_seatsFrom_17 ?_
  exact ⟨rfl, rfl, rfl, rfl, rfl⟩

set_option maxHeartbeats 4000000 in
set_option maxRecDepth 100000 in
theorem cR_sight {l : Launch} {I : wr_TI} {L : wr_TL} {R : wr_TR} (j : Nat) (x : Int32) (hs : SH[j]? = some (.inr 5)) : wr_E l 1 mX5_sightOf [.ref j, .int x] SH I L R (some (.int (if (I j 5 - 1) / 2 < x then (I j 5 - 1) / 2 else x))) I L R := by
  refine wv_pad 0 ?_
  show wr_V l 1 mX5_sightOf 0 [some (.ref j), some (.int x)] [] SH I L R 0 0 _
  refine wv_iload_n dX5_sightOf_0 rfl ?_
  refine wv_aload_n dX5_sightOf_1 rfl ?_
  refine wv_getI fX5_35 dX5_sightOf_2 rfl (by first | assumption | rfl) ?_
  refine wv_iconst (v := 1) dX5_sightOf_5 (by decide) ?_
  refine wv_isub dX5_sightOf_6 ?_
  refine wv_iconst (v := 2) dX5_sightOf_7 (by decide) ?_
  refine wv_idiv dX5_sightOf_8 (by decide) ?_
  refine wv_min qX5_70 wr_min1 wr_min2 wr_min3 dX5_sightOf_9 (by omega) (Nat.le_of_ble_eq_true rfl) ?_
  refine wv_iret rfl dX5_sightOf_12 ?_
  exact ⟨rfl, rfl, rfl, rfl, rfl⟩

set_option maxHeartbeats 4000000 in
set_option maxRecDepth 100000 in
theorem cR_stretches {l : Launch} {I : wr_TI} {L : wr_TL} {R : wr_TR} (j : Nat) (x : Int64) (hs : SH[j]? = some (.inr 5)) : wr_E l 2 mX5_stretches [.ref j, .long x] SH I L R (some (.int (if x = (1 <<< ((I j 5).toInt64 &&& 63)) - 1 then 1 else nI (cn (lb (x &&& (tu (I j 5) 1 x ^^^ (-1)))) 64)))) I L R := by
  refine wv_pad 0 ?_
  show wr_V l 2 mX5_stretches 0 [some (.ref j), some (.long x), none] [] SH I L R 0 0 _
  refine wv_lload_n dX5_stretches_0 rfl ?_
  refine wv_aload_n dX5_stretches_1 rfl ?_
  refine wv_v0e oX5_everySeat kX5_80 dX5_stretches_2 (by omega) (by first | assumption | rfl) ⟨rfl, by decide⟩ (Nat.le_of_ble_eq_true rfl) (Nat.le_of_ble_eq_true rfl) (cR_every _ (by assumption)) ?_
  refine wv_lcmp dX5_stretches_5 ?_
  refine wv_if_ne (tgt := 11) dX5_stretches_6 (by decide) (fun h6 => ?_) (fun h6 => ?_)
  · refine wv_lload_n dX5_stretches_11 rfl ?_
    refine wv_aload_n dX5_stretches_12 rfl ?_
    refine wv_lload_n dX5_stretches_13 rfl ?_
    refine wv_iconst (v := 1) dX5_stretches_14 (by decide) ?_
    refine wv_v2e oX5_turned kX5_76 dX5_stretches_15 (by omega) (by first | assumption | rfl) ⟨rfl, by decide⟩ (Nat.le_of_ble_eq_true rfl) (Nat.le_of_ble_eq_true rfl) (cR_turned _ _ _ (by assumption)) ?_
    refine wv_ldc2_w nX5_84 dX5_stretches_18 ?_
    refine wv_lxor dX5_stretches_21 ?_
    refine wv_land dX5_stretches_22 ?_
    refine wv_s1e oJ13_bitCount_95d88 kX5_86 dX5_stretches_23 (by omega) (Nat.le_of_ble_eq_true rfl) (Nat.le_of_ble_eq_true rfl) (cJ_bits _) ?_
    refine wv_iret rfl dX5_stretches_26 ?_
    refine ⟨?_, rfl, rfl, rfl, rfl⟩
    rw [lg_cmp_eq] at h6
    first | rw [if_pos h6] | rw [if_neg h6]
  · refine wv_iconst (v := 1) dX5_stretches_9 (by decide) ?_
    refine wv_iret rfl dX5_stretches_10 ?_
    refine ⟨?_, rfl, rfl, rfl, rfl⟩
    rw [lg_cmp_eq] at h6
    first | rw [if_pos h6] | rw [if_neg h6]

/-- the first slack line, from i on, k of them, that holds the tenth t -/
def sl (fr to by' : Nat → Int32) (t : Int32) : Nat → Nat → Int32
  | 0, _ => 0
  | k + 1, i => if fr i ≤ t ∧ t ≤ to i then by' i else sl fr to by' t k (i + 1)
set_option maxHeartbeats 4000000 in
set_option maxRecDepth 100000 in
theorem cR_slackIn {l : Launch} {I : wr_TI} {L : wr_TL} {R : wr_TR} (j : Nat) (t : Int32) (n : Nat) (hs : SH[j]? = some (.inr 5)) (hs1 : SH[j + 4]? = some (.inl (0, 6))) (hs2 : SH[j + 5]? = some (.inl (0, 6))) (hs3 : SH[j + 6]? = some (.inl (0, 6))) (hr1 : R j 1 = j + 4 + 1) (hr2 : R j 2 = j + 5 + 1) (hr3 : R j 3 = j + 6 + 1) (hn : n ≤ 6) (hsl : I j 4 = nI n) : wr_E l 0 mX5_slackIn [.ref j, .int t] SH I L R (some (.int (sl (I (j + 4)) (I (j + 5)) (I (j + 6)) t n 0))) I L R := by
  have lp : ∀ k i, i + k = n → wr_V l 0 mX5_slackIn 2 [some (.ref j), some (.int t), some (.int (nI i))] [] SH I L R 0 0 (wr_EQ (some (.int (sl (I (j + 4)) (I (j + 5)) (I (j + 6)) t k i))) SH I L R) := by
    intro k
    induction k with
    | zero =>
      intro i hi
      refine wv_iload_n dX5_slackIn_2 rfl ?_
      refine wv_aload_n dX5_slackIn_3 rfl ?_
      refine wv_getI fX5_31 dX5_slackIn_4 rfl (by first | assumption | rfl) ?_
      refine wv_icmp_ge (tgt := 49) dX5_slackIn_7 (by decide) (fun h7 => ?_) (fun h7 => absurd (by rw [hsl]; exact nI_le (by omega) (by omega)) h7)
      refine wv_iconst (v := 0) dX5_slackIn_49 (by decide) ?_
      refine wv_iret rfl dX5_slackIn_50 ?_
      exact ⟨rfl, rfl, rfl, rfl, rfl⟩
    | succ k ih =>
      intro i hi
      refine wv_iload_n dX5_slackIn_2 rfl ?_
      refine wv_aload_n dX5_slackIn_3 rfl ?_
      refine wv_getI fX5_31 dX5_slackIn_4 rfl (by first | assumption | rfl) ?_
      refine wv_icmp_ge (tgt := 49) dX5_slackIn_7 (by decide) (fun h7 => absurd h7 (by rw [hsl]; exact nI_ge (by omega) (by omega))) (fun h7 => ?_)
      refine wv_iload_n dX5_slackIn_10 rfl ?_
      refine wv_bipush (v := 6) dX5_slackIn_11 (by decide) ?_
      refine wv_icmp_ge (tgt := 49) dX5_slackIn_13 (by decide) (fun h13 => absurd h13 (nI_ge (b := 6) (by omega) (by omega))) (fun h13 => ?_)
      refine wv_iload_n dX5_slackIn_16 rfl ?_
      refine wv_aload_n dX5_slackIn_17 rfl ?_
      refine wv_getR fX5_18 dX5_slackIn_18 rfl (by first | assumption | rfl) (by first | exact hR _ _ _ rfl | assumption) ?_
      refine wv_iload_n dX5_slackIn_21 rfl ?_
      refine wv_ialdN dX5_slackIn_22 (by first | assumption | rfl) (by omega) (by decide) ?_
      refine wv_icmp_lt (tgt := 43) dX5_slackIn_23 (by decide) (fun h23 => ?_) (fun h23 => ?_)
      · have hc : ¬ (I (j + 4) i ≤ t ∧ t ≤ I (j + 5) i) := fun q => absurd h23 (Int32.not_lt.mpr q.1)
        refine wv_iinc (v := nI (i + 1)) dX5_slackIn_43 rfl (nI_1 (i)) (by decide) ?_
        refine wv_goto (tgt := 2) dX5_slackIn_46 (by decide) ?_
        have := ih (i + 1) (by omega)
        simp only [sl]
        rw [if_neg hc]
        exact this
      · refine wv_iload_n dX5_slackIn_26 rfl ?_
        refine wv_aload_n dX5_slackIn_27 rfl ?_
        refine wv_getR fX5_22 dX5_slackIn_28 rfl (by first | assumption | rfl) (by first | exact hR _ _ _ rfl | assumption) ?_
        refine wv_iload_n dX5_slackIn_31 rfl ?_
        refine wv_ialdN dX5_slackIn_32 (by first | assumption | rfl) (by omega) (by decide) ?_
        refine wv_icmp_gt (tgt := 43) dX5_slackIn_33 (by decide) (fun h33 => ?_) (fun h33 => ?_)
        · have hc : ¬ (I (j + 4) i ≤ t ∧ t ≤ I (j + 5) i) := fun q => absurd h33 (Int32.not_lt.mpr q.2)
          refine wv_iinc (v := nI (i + 1)) dX5_slackIn_43 rfl (nI_1 (i)) (by decide) ?_
          refine wv_goto (tgt := 2) dX5_slackIn_46 (by decide) ?_
          have := ih (i + 1) (by omega)
          simp only [sl]
          rw [if_neg hc]
          exact this
        · refine wv_aload_n dX5_slackIn_36 rfl ?_
          refine wv_getR fX5_25 dX5_slackIn_37 rfl (by first | assumption | rfl) (by first | exact hR _ _ _ rfl | assumption) ?_
          refine wv_iload_n dX5_slackIn_40 rfl ?_
          refine wv_ialdN dX5_slackIn_41 (by first | assumption | rfl) (by omega) (by decide) ?_
          refine wv_iret rfl dX5_slackIn_42 ?_
          refine ⟨?_, rfl, rfl, rfl, rfl⟩
          simp only [sl]
          rw [if_pos ⟨Int32.not_lt.mp h23, Int32.not_lt.mp h33⟩]
  refine wv_pad 1 ?_
  show wr_V l 0 mX5_slackIn 0 [some (.ref j), some (.int t), none] [] SH I L R 0 0 _
  refine wv_iconst (v := nI 0) dX5_slackIn_0 rfl ?_
  refine wv_istore_k (i := 2) dX5_slackIn_1 rfl (by decide) ?_
  exact lp n 0 (by omega)

