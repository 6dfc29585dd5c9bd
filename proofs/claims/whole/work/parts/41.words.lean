/-! words that stand here -/
def isWd (T : TP) (k : TK) (i : Nat) : Bool := decide (k.1 = 1 ∧ k.2.2.1 - k.2.1 = wr_sl.getD i 0) && decide (cn (fun j => !decide (bt T (k.2.1 + j) = wr_chr i j)) (wr_sl.getD i 0) = 0)
theorem wr_sl5 : ∀ i, i < 22 → wr_sl.getD i 0 ≤ 5 := by decide
set_option maxHeartbeats 4000000 in
set_option maxRecDepth 100000 in
theorem cD_isWord {l : Launch} {I : wr_TI} {L : wr_TL} {R : wr_TR} (hR : wr_RC R) (T : TP) (k : TK) (hT : tpV I T) (hk : tkV I k) (ho : tkO k) (i : Nat) (hi : i < 22) : wr_E l 4 mX4_isWord [.ref 17, .ref (1000000 + i)] SH I L R (some (.int (if isWd T k i = true then 1 else 0))) I L R := by
  obtain ⟨k1, k2, k3, k4⟩ := id hk
  obtain ⟨o1, o2, o3⟩ := id ho
  have hl5 := wr_sl5 i hi
  by_cases hc : k.1 = 1 ∧ k.2.2.1 - k.2.1 = wr_sl.getD i 0
  · have lp : ∀ (q j : Nat), j + q = wr_sl.getD i 0 → (∀ j', j' < j → bt T (k.2.1 + j') = wr_chr i j') → wr_V l 4 mX4_isWord 28 [some (.ref 17), some (.ref (1000000 + i)), some (.int (nI j))] [] SH I L R 0 0 (wr_EQ (some (.int (if isWd T k i = true then 1 else 0))) SH I L R) := by
      intro q
      induction q with
      | zero =>
        intro j hj hd
        have e : isWd T k i = true := by
          unfold isWd
          rw [Bool.and_eq_true, decide_eq_true_iff, decide_eq_true_iff, cn_pos]
          exact ⟨hc, fun j' hj' => by simp [hd j' (by omega)]⟩
        rw [e]
        refine wv_iload_n dX4_isWord_28 rfl ?_
        refine wv_aload_n dX4_isWord_29 rfl ?_
        refine wv_t0e hi rfl oJ0_length_8abf5 kX4_219 dX4_isWord_30 (by omega) (Nat.le_of_ble_eq_true rfl) (Nat.le_of_ble_eq_true rfl) (cJ0_length (d := 1) hi (by omega)) ?_
        refine wv_icmp_ge (tgt := 65) dX4_isWord_33 (by decide) (fun h33 => ?_) (fun h33 => absurd (nI_le (by omega) (by omega)) h33)
        refine wv_iconst (v := 1) dX4_isWord_65 (by decide) ?_
        refine wv_zret rfl rfl dX4_isWord_66 ?_
        exact ⟨rfl, rfl, rfl, rfl, rfl⟩
      | succ q ih =>
        intro j hj hd
        refine wv_iload_n dX4_isWord_28 rfl ?_
        refine wv_aload_n dX4_isWord_29 rfl ?_
        refine wv_t0e hi rfl oJ0_length_8abf5 kX4_219 dX4_isWord_30 (by omega) (Nat.le_of_ble_eq_true rfl) (Nat.le_of_ble_eq_true rfl) (cJ0_length (d := 1) hi (by omega)) ?_
        refine wv_icmp_ge (tgt := 65) dX4_isWord_33 (by decide) (fun h33 => absurd h33 (nI_ge (by omega) (by omega))) (fun h33 => ?_)
        refine wv_aload_n dX4_isWord_36 rfl ?_
        refine wv_getR fX4_9 dX4_isWord_37 rfl (by first | assumption | rfl) (by first | exact hR _ _ _ rfl | assumption) ?_
        refine wv_aload_n dX4_isWord_40 rfl ?_
        refine wv_getI fX4_210 dX4_isWord_41 rfl (by first | assumption | rfl) ?_
        refine wv_iload_n dX4_isWord_44 rfl ?_
        refine wv_iadd dX4_isWord_45 ?_
        rw [k2, nI_add]
        refine wv_v1e oX6_at kX4_213 dX4_isWord_46 (by omega) (by first | assumption | rfl) ⟨rfl, by decide⟩ (Nat.le_of_ble_eq_true rfl) (Nat.le_of_ble_eq_true rfl) (cT_at hR T _ hT) ?_
        refine wv_aload_n dX4_isWord_49 rfl ?_
        refine wv_iload_n dX4_isWord_50 rfl ?_
        refine wv_t1e hi rfl oJ0_charAt_5068e kX4_224 dX4_isWord_51 (by omega) (Nat.le_of_ble_eq_true rfl) (Nat.le_of_ble_eq_true rfl) (cJ0_charAt (d := 3) hi (by omega) (by omega)) ?_
        refine wv_icmp_eq (tgt := 59) dX4_isWord_54 (by decide) (fun h54 => ?_) (fun h54 => ?_)
        · have h54 : bt T (k.2.1 + j) = wr_chr i j := h54
          refine wv_iinc (v := nI (j + 1)) dX4_isWord_59 rfl (nI_1 (j)) (by decide) ?_
          refine wv_goto (tgt := 28) dX4_isWord_62 (by decide) ?_
          refine wv_le (by simp [wr_leq, wr_s1, wr_s2, wr_wide]) (ih (j + 1) (by omega) (fun j' hj' => ?_))
          by_cases hjj : j' = j
          · subst hjj; exact h54
          · exact hd j' (by omega)
        · have h54 : ¬ bt T (k.2.1 + j) = wr_chr i j := h54
          refine wv_iconst (v := 0) dX4_isWord_57 (by decide) ?_
          refine wv_zret rfl rfl dX4_isWord_58 ?_
          have e : isWd T k i = false := by
            cases hz : isWd T k i with
            | false => rfl
            | true =>
              unfold isWd at hz
              rw [Bool.and_eq_true, decide_eq_true_iff, decide_eq_true_iff, cn_pos] at hz
              have := hz.2 j (by omega)
              simp at this
              exact absurd this h54
          rw [e]
          exact ⟨rfl, rfl, rfl, rfl, rfl⟩
    refine wv_pad 1 ?_
    show wr_V l 4 mX4_isWord 0 [some (.ref 17), some (.ref (1000000 + i)), none] [] SH I L R 0 0 _
    refine wv_aload_n dX4_isWord_0 rfl ?_
    refine wv_getI fX4_47 dX4_isWord_1 rfl (by first | assumption | rfl) ?_
    refine wv_iconst (v := 1) dX4_isWord_4 (by decide) ?_
    rw [k1, hc.1]
    refine wv_icmp_ne (tgt := 24) dX4_isWord_5 (by decide) (fun h5 => absurd (by decide) h5) (fun h5 => ?_)
    refine wv_aload_n dX4_isWord_8 rfl ?_
    refine wv_getI fX4_41 dX4_isWord_9 rfl (by first | assumption | rfl) ?_
    refine wv_aload_n dX4_isWord_12 rfl ?_
    refine wv_getI fX4_210 dX4_isWord_13 rfl (by first | assumption | rfl) ?_
    refine wv_isub dX4_isWord_16 ?_
    rw [k2, k3, pk_sub o2, hc.2]
    refine wv_aload_n dX4_isWord_17 rfl ?_
    refine wv_t0e hi rfl oJ0_length_8abf5 kX4_219 dX4_isWord_18 (by omega) (Nat.le_of_ble_eq_true rfl) (Nat.le_of_ble_eq_true rfl) (cJ0_length (d := 1) hi (by omega)) ?_
    refine wv_icmp_eq (tgt := 26) dX4_isWord_21 (by decide) (fun h21 => ?_) (fun h21 => absurd rfl h21)
    refine wv_iconst (v := nI 0) dX4_isWord_26 rfl ?_
    refine wv_istore_k (i := 2) dX4_isWord_27 rfl (by decide) ?_
    exact wv_le (by simp [wr_leq, wr_s1, wr_s2, wr_wide]) (lp (wr_sl.getD i 0) 0 (by omega) (fun j hj => by omega))
  · have e : isWd T k i = false := by unfold isWd; simp only [hc, decide_false, Bool.false_and]
    rw [e]
    refine wv_pad 1 ?_
    show wr_V l 4 mX4_isWord 0 [some (.ref 17), some (.ref (1000000 + i)), none] [] SH I L R 0 0 _
    refine wv_aload_n dX4_isWord_0 rfl ?_
    refine wv_getI fX4_47 dX4_isWord_1 rfl (by first | assumption | rfl) ?_
    refine wv_iconst (v := 1) dX4_isWord_4 (by decide) ?_
    rw [k1]
    refine wv_icmp_ne (tgt := 24) dX4_isWord_5 (by decide) (fun h5 => ?_) (fun h5 => ?_)
    · refine wv_iconst (v := 0) dX4_isWord_24 (by decide) ?_
      refine wv_zret rfl rfl dX4_isWord_25 ?_
      exact ⟨rfl, rfl, rfl, rfl, rfl⟩
    · have hk1 : k.1 = 1 := (nI_eq (b := 1) (by omega) (by omega)).mp h5
      refine wv_aload_n dX4_isWord_8 rfl ?_
      refine wv_getI fX4_41 dX4_isWord_9 rfl (by first | assumption | rfl) ?_
      refine wv_aload_n dX4_isWord_12 rfl ?_
      refine wv_getI fX4_210 dX4_isWord_13 rfl (by first | assumption | rfl) ?_
      refine wv_isub dX4_isWord_16 ?_
      rw [k2, k3, pk_sub o2]
      refine wv_aload_n dX4_isWord_17 rfl ?_
      refine wv_t0e hi rfl oJ0_length_8abf5 kX4_219 dX4_isWord_18 (by omega) (Nat.le_of_ble_eq_true rfl) (Nat.le_of_ble_eq_true rfl) (cJ0_length (d := 1) hi (by omega)) ?_
      refine wv_icmp_eq (tgt := 26) dX4_isWord_21 (by decide) (fun h21 => absurd h21 (fun q => hc ⟨hk1, (nI_eq (by omega) (by omega)).mp q⟩)) (fun h21 => ?_)
      refine wv_iconst (v := 0) dX4_isWord_24 (by decide) ?_
      refine wv_zret rfl rfl dX4_isWord_25 ?_
      exact ⟨rfl, rfl, rfl, rfl, rfl⟩

set_option maxHeartbeats 4000000 in
set_option maxRecDepth 100000 in
theorem cD_takeW {l : Launch} {I : wr_TI} {L : wr_TL} {R : wr_TR} (hR : wr_RC R) (T : TP) (k : TK) (hT : tpV I T) (hk : tkV I k) (ho : tkO k) (i : Nat) (hi : i < 22) : wr_P l 5 mX4_takeWord [.ref 17, .ref (1000000 + i)] SH I L R (fun v s' I' L' R' => s' = SH ∧ L' = L ∧ R' = R ∧ (isWd T k i = true → v = some (.int 1) ∧ tkV I' (tkS T k.2.2.1) ∧ frK I I') ∧ (¬ isWd T k i = true → v = some (.int 0) ∧ I' = rfI I (rfF k) k)) := by
  obtain ⟨k1, k2, k3, k4⟩ := id hk
  obtain ⟨o1, o2, o3⟩ := id ho
  refine wv_pad 0 ?_
  show wr_V l 5 mX4_takeWord 0 [some (.ref 17), some (.ref (1000000 + i))] [] SH I L R 0 0 _
  refine wv_aload_n dX4_takeWord_0 rfl ?_
  refine wv_aload_n dX4_takeWord_1 rfl ?_
  refine wv_v1e oX4_isWord kX4_56 dX4_takeWord_2 (by omega) (by first | assumption | rfl) ⟨rfl, by decide⟩ (Nat.le_of_ble_eq_true rfl) (Nat.le_of_ble_eq_true rfl) (cD_isWord hR T k hT hk ho i hi) ?_
  refine wv_if_ne (tgt := 13) dX4_takeWord_5 (by decide) (fun h5 => ?_) (fun h5 => ?_)
  · rw [if10, Decidable.not_not] at h5
    refine wv_aload_n dX4_takeWord_13 rfl ?_
    refine wv_v0 oX4_step kX4_44 dX4_takeWord_14 (by omega) (by first | assumption | rfl) ⟨rfl, by decide⟩ (Nat.le_of_ble_eq_true rfl) (Nat.le_of_ble_eq_true rfl) (cD_step hR T k.2.2.1 hT o3 k3) (fun v9 s9 J9 L9 R9 h9 => ?_)
    obtain ⟨rfl, rfl, rfl, rfl, hk9, hf9⟩ := h9
    refine wv_iconst (v := 1) dX4_takeWord_17 (by decide) ?_
    refine wv_zret rfl rfl dX4_takeWord_18 ?_
    exact ⟨rfl, rfl, rfl, fun _ => ⟨rfl, hk9, hf9⟩, fun z => absurd h5 z⟩
  · rw [if10] at h5
    refine wv_aload_n dX4_takeWord_8 rfl ?_
    refine wv_v0e oX4_refuse kX4_82 dX4_takeWord_9 (by omega) (by first | assumption | rfl) ⟨rfl, by decide⟩ (Nat.le_of_ble_eq_true rfl) (Nat.le_of_ble_eq_true rfl) (cD_refuse hR k hk ho) ?_
    refine wv_zret rfl rfl dX4_takeWord_12 ?_
    exact ⟨rfl, rfl, rfl, fun z => absurd z h5, fun _ => ⟨rfl, rfl⟩⟩

def lkH (T : TP) (k : TK) : Int32 := if isWd T k 14 = true then 0 else if isWd T k 15 = true then 1 else if isWd T k 5 = true then 2 else if isWd T k 16 = true then 3 else if isWd T k 17 = true then 4 else if isWd T k 18 = true then 5 else if isWd T k 19 = true then 6 else -1
set_option maxHeartbeats 4000000 in
set_option maxRecDepth 100000 in
theorem cD_look {l : Launch} {I : wr_TI} {L : wr_TL} {R : wr_TR} (hR : wr_RC R) (T : TP) (k : TK) (hT : tpV I T) (hk : tkV I k) (ho : tkO k) : wr_E l 5 mX4_lookHere [.ref 17] SH I L R (some (.int (lkH T k))) I L R := by
  obtain ⟨k1, k2, k3, k4⟩ := id hk
  obtain ⟨o1, o2, o3⟩ := id ho
  refine wv_pad 0 ?_
  show wr_V l 5 mX4_lookHere 0 [some (.ref 17)] [] SH I L R 0 0 _
  refine wv_aload_n dX4_lookHere_0 rfl ?_
  refine wv_ldcS (i := 14) rfl (by decide) rfl dX4_lookHere_1 ?_
  refine wv_v1e oX4_isWord kX4_56 dX4_lookHere_3 (by omega) (by first | assumption | rfl) ⟨rfl, by decide⟩ (Nat.le_of_ble_eq_true rfl) (Nat.le_of_ble_eq_true rfl) (cD_isWord hR T k hT hk ho _ (by decide)) ?_
  refine wv_if_eq (tgt := 11) dX4_lookHere_6 (by decide) (fun h6 => ?_) (fun h6 => ?_)
  · refine wv_aload_n dX4_lookHere_11 rfl ?_
    refine wv_ldcS (i := 15) rfl (by decide) rfl dX4_lookHere_12 ?_
    refine wv_v1e oX4_isWord kX4_56 dX4_lookHere_14 (by omega) (by first | assumption | rfl) ⟨rfl, by decide⟩ (Nat.le_of_ble_eq_true rfl) (Nat.le_of_ble_eq_true rfl) (cD_isWord hR T k hT hk ho _ (by decide)) ?_
    refine wv_if_eq (tgt := 22) dX4_lookHere_17 (by decide) (fun h17 => ?_) (fun h17 => ?_)
    · refine wv_aload_n dX4_lookHere_22 rfl ?_
      refine wv_ldcS (i := 5) rfl (by decide) rfl dX4_lookHere_23 ?_
      refine wv_v1e oX4_isWord kX4_56 dX4_lookHere_25 (by omega) (by first | assumption | rfl) ⟨rfl, by decide⟩ (Nat.le_of_ble_eq_true rfl) (Nat.le_of_ble_eq_true rfl) (cD_isWord hR T k hT hk ho _ (by decide)) ?_
      refine wv_if_eq (tgt := 33) dX4_lookHere_28 (by decide) (fun h28 => ?_) (fun h28 => ?_)
      · refine wv_aload_n dX4_lookHere_33 rfl ?_
        refine wv_ldcS (i := 16) rfl (by decide) rfl dX4_lookHere_34 ?_
        refine wv_v1e oX4_isWord kX4_56 dX4_lookHere_36 (by omega) (by first | assumption | rfl) ⟨rfl, by decide⟩ (Nat.le_of_ble_eq_true rfl) (Nat.le_of_ble_eq_true rfl) (cD_isWord hR T k hT hk ho _ (by decide)) ?_
        refine wv_if_eq (tgt := 44) dX4_lookHere_39 (by decide) (fun h39 => ?_) (fun h39 => ?_)
        · refine wv_aload_n dX4_lookHere_44 rfl ?_
          refine wv_ldcS (i := 17) rfl (by decide) rfl dX4_lookHere_45 ?_
          refine wv_v1e oX4_isWord kX4_56 dX4_lookHere_47 (by omega) (by first | assumption | rfl) ⟨rfl, by decide⟩ (Nat.le_of_ble_eq_true rfl) (Nat.le_of_ble_eq_true rfl) (cD_isWord hR T k hT hk ho _ (by decide)) ?_
          refine wv_if_eq (tgt := 55) dX4_lookHere_50 (by decide) (fun h50 => ?_) (fun h50 => ?_)
          · refine wv_aload_n dX4_lookHere_55 rfl ?_
            refine wv_ldcS (i := 18) rfl (by decide) rfl dX4_lookHere_56 ?_
            refine wv_v1e oX4_isWord kX4_56 dX4_lookHere_58 (by omega) (by first | assumption | rfl) ⟨rfl, by decide⟩ (Nat.le_of_ble_eq_true rfl) (Nat.le_of_ble_eq_true rfl) (cD_isWord hR T k hT hk ho _ (by decide)) ?_
            refine wv_if_eq (tgt := 66) dX4_lookHere_61 (by decide) (fun h61 => ?_) (fun h61 => ?_)
            · refine wv_aload_n dX4_lookHere_66 rfl ?_
              refine wv_ldcS (i := 19) rfl (by decide) rfl dX4_lookHere_67 ?_
              refine wv_v1e oX4_isWord kX4_56 dX4_lookHere_69 (by omega) (by first | assumption | rfl) ⟨rfl, by decide⟩ (Nat.le_of_ble_eq_true rfl) (Nat.le_of_ble_eq_true rfl) (cD_isWord hR T k hT hk ho _ (by decide)) ?_
              refine wv_if_eq (tgt := 80) dX4_lookHere_72 (by decide) (fun h72 => ?_) (fun h72 => ?_)
              · refine wv_iconst (v := (-1)) dX4_lookHere_80 (by decide) ?_
                refine wv_iret rfl dX4_lookHere_81 ?_
                refine ⟨?_, rfl, rfl, rfl, rfl⟩
                simp only [if10, Decidable.not_not] at *
                simp only [lkH, *, if_true, if_false]
                try rfl
              · refine wv_bipush (v := 6) dX4_lookHere_75 (by decide) ?_
                refine wv_goto (tgt := 81) dX4_lookHere_77 (by decide) ?_
                refine wv_iret rfl dX4_lookHere_81 ?_
                refine ⟨?_, rfl, rfl, rfl, rfl⟩
                simp only [if10, Decidable.not_not] at *
                simp only [lkH, *, if_true, if_false]
                try rfl
            · refine wv_iconst (v := 5) dX4_lookHere_64 (by decide) ?_
              refine wv_iret rfl dX4_lookHere_65 ?_
              refine ⟨?_, rfl, rfl, rfl, rfl⟩
              simp only [if10, Decidable.not_not] at *
              simp only [lkH, *, if_true, if_false]
              try rfl
          · refine wv_iconst (v := 4) dX4_lookHere_53 (by decide) ?_
            refine wv_iret rfl dX4_lookHere_54 ?_
            refine ⟨?_, rfl, rfl, rfl, rfl⟩
            simp only [if10, Decidable.not_not] at *
            simp only [lkH, *, if_true, if_false]
            try rfl
        · refine wv_iconst (v := 3) dX4_lookHere_42 (by decide) ?_
          refine wv_iret rfl dX4_lookHere_43 ?_
          refine ⟨?_, rfl, rfl, rfl, rfl⟩
          simp only [if10, Decidable.not_not] at *
          simp only [lkH, *, if_true, if_false]
          try rfl
      · refine wv_iconst (v := 2) dX4_lookHere_31 (by decide) ?_
        refine wv_iret rfl dX4_lookHere_32 ?_
        refine ⟨?_, rfl, rfl, rfl, rfl⟩
        simp only [if10, Decidable.not_not] at *
        simp only [lkH, *, if_true, if_false]
        try rfl
    · refine wv_iconst (v := 1) dX4_lookHere_20 (by decide) ?_
      refine wv_iret rfl dX4_lookHere_21 ?_
      refine ⟨?_, rfl, rfl, rfl, rfl⟩
      simp only [if10, Decidable.not_not] at *
      simp only [lkH, *, if_true, if_false]
      try rfl
  · refine wv_iconst (v := 0) dX4_lookHere_9 (by decide) ?_
    refine wv_iret rfl dX4_lookHere_10 ?_
    refine ⟨?_, rfl, rfl, rfl, rfl⟩
    simp only [if10, Decidable.not_not] at *
    simp only [lkH, *, if_true, if_false]
    try rfl

