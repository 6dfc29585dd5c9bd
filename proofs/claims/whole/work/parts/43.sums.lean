/-! sums, relations, both, either -/
set_option maxHeartbeats 4000000 in
set_option maxRecDepth 100000 in
theorem cD_nest0 {l : Launch} {L : wr_TL} {R : wr_TR} {T : TP} {t : Nat} (hR : wr_RC R) (ht : t = 3 ∨ t = 10) (hin : R 17 1 = t + 1) (d dp : Nat) (hd : 1 ≤ d) (hdp : 7 ≤ dp) (hdp2 : dp < 100) : CT l L R T t d mX4_readNested dp rfR := by
  intro I s hT hs
  have hg := isG_of hR ht
  obtain ⟨y0, g0, g1, g2, g3, g4, g5, g6, p0, p1, p2, p3, p4, p5⟩ := id hg
  obtain ⟨s1, s2, s3, s4, s5, s6, s7⟩ := id hs
  refine wv_pad 0 ?_
  show wr_V l d mX4_readNested 0 [some (.ref 17), some (.int (nI dp))] [] SH I L R 0 0 _
  refine wv_iload_n dX4_readNested_0 rfl ?_
  refine wv_bipush (v := 7) dX4_readNested_1 (by decide) ?_
  refine wv_icmp_lt (tgt := 11) dX4_readNested_3 (by decide) (fun h3 => absurd h3 (nI_nlt (b := 7) (by omega) (by omega))) (fun h3 => ?_)
  refine wv_aload_n dX4_readNested_6 rfl ?_
  refine wv_v0e oX4_refuse kX4_82 dX4_readNested_7 (by omega) (by first | assumption | rfl) ⟨rfl, by decide⟩ (Nat.le_of_ble_eq_true rfl) (Nat.le_of_ble_eq_true rfl) (cD_refuse hR s.1 s1 s2) ?_
  refine wv_zret rfl rfl dX4_readNested_10 ?_
  exact rf_Q ht frE_rf hs

set_option maxHeartbeats 4000000 in
set_option maxRecDepth 100000 in
theorem cD_nest {l : Launch} {L : wr_TL} {R : wr_TR} {T : TP} {t : Nat} (hR : wr_RC R) (ht : t = 3 ∨ t = 10) (hin : R 17 1 = t + 1) (d dp : Nat) (hd : 3 ≤ d) (hdp : dp < 7) (E : PS → PR) (hE : CT l L R T t d mX4_readEither (dp + 1) E) : ∀ I s, tpV I T → psV I t s → s.2.2 < 30 → wr_P l (d + 1) mX4_readNested [.ref 17, .int (nI dp)] SH I L R (pQ L R t I (pNest T E s)) := by
  intro I s hT hs hu30
  have hg := isG_of hR ht
  obtain ⟨y0, g0, g1, g2, g3, g4, g5, g6, p0, p1, p2, p3, p4, p5⟩ := id hg
  obtain ⟨s1, s2, s3, s4, s5, s6, s7⟩ := id hs
  have hs5 := psV_un hs ht hu30
  have hf5 : frE t I (wr_uI I (t + 1) 3 (I (t + 1) 3 + 1)) := frE_un ht
  have hT5 := frE_T ht hf5 hT
  refine wv_pad 0 ?_
  show wr_V l (d + 1) mX4_readNested 0 [some (.ref 17), some (.int (nI dp))] [] SH I L R 0 0 _
  refine wv_iload_n dX4_readNested_0 rfl ?_
  refine wv_bipush (v := 7) dX4_readNested_1 (by decide) ?_
  refine wv_icmp_lt (tgt := 11) dX4_readNested_3 (by decide) (fun h3 => ?_) (fun h3 => absurd (nI_lt (b := 7) (by omega) (by omega)) h3)
  refine wv_aload_n dX4_readNested_11 rfl ?_
  refine wv_getR fX4_15 dX4_readNested_12 rfl (by first | assumption | rfl) (by first | exact hR _ _ _ rfl | assumption) ?_
  refine wv_getR fX4_140 dX4_readNested_15 rfl (by first | assumption | rfl) (by first | exact hR _ _ _ rfl | assumption) ?_
  refine wv_dup dX4_readNested_18 rfl ?_
  refine wv_getI fX4_186 dX4_readNested_19 rfl (by first | assumption | rfl) ?_
  refine wv_iconst (v := 1) dX4_readNested_22 (by decide) ?_
  refine wv_iadd dX4_readNested_23 ?_
  refine wv_putI fX4_186 dX4_readNested_24 rfl rfl rfl rfl (by first | assumption | rfl) ?_
  refine wv_aload_n dX4_readNested_27 rfl ?_
  refine wv_v0 oX4_step kX4_44 dX4_readNested_28 (by omega) (by first | assumption | rfl) ⟨rfl, by decide⟩ (Nat.le_of_ble_eq_true rfl) (Nat.le_of_ble_eq_true rfl) (cD_step hR T s.1.2.2.1 hT5 s2.2.2 hs5.1.2.2.1) (fun v9 s9 J9 L9 R9 h9 => ?_)
  obtain ⟨rfl, rfl, rfl, rfl, hk9, hf9⟩ := h9
  have hs9 := psV_nx ht hT.2.1 hs5 hk9 hf9
  have hf59 := frE_tr hf5 (frE_K ht hf9)
  have hno9 : noF I J9 := noF_tr ⟨by rw [wr_uI_ne (by omega)], by rw [wr_uI_ne (by omega)]⟩ (noF_K hf9)
  refine wv_aload_n dX4_readNested_31 rfl ?_
  refine wv_iload_n dX4_readNested_32 rfl ?_
  refine wv_iconst (v := 1) dX4_readNested_33 (by decide) ?_
  refine wv_iadd dX4_readNested_34 ?_
  rw [nI_1]
  refine wv_v1 oX4_readEither kX4_150 dX4_readNested_35 (by omega) (by first | assumption | rfl) ⟨rfl, by decide⟩ (Nat.le_of_ble_eq_true rfl) (Nat.le_of_ble_eq_true rfl) (hE J9 _ (frE_T ht hf59 hT) hs9) (fun v8 s8 J8 L8 R8 h8 => ?_)
  show wr_V _ _ _ _ _ _ _ _ _ _ _ _ (pQ _ _ t I (pNest T E s))
  unfold pNest
  cases hx : E (nxt T (unC s)) with
  | inr e =>
    rw [hx] at h8
    obtain ⟨rfl, rfl, rfl, hf8, rfl, h8⟩ := h8
    refine wv_if_ne (tgt := 43) dX4_readNested_38 (by decide) (fun h38 => absurd rfl h38) (fun h38 => ?_)
    refine wv_iconst (v := 0) dX4_readNested_41 (by decide) ?_
    refine wv_zret rfl rfl dX4_readNested_42 ?_
    exact ⟨rfl, rfl, rfl, frE_tr hf59 hf8, rfl, h8⟩
  | inl s' =>
    rw [hx] at h8
    obtain ⟨rfl, rfl, rfl, hf8, rfl, hs8, hno8⟩ := h8
    have hf598 := frE_tr hf59 hf8
    show wr_V _ _ _ _ _ _ _ _ _ _ _ _ (pQ _ _ t I (if isS T s'.1 41 = true then .inl (nxt T s') else rfR s'))
    refine wv_if_ne (tgt := 43) dX4_readNested_38 (by decide) (fun h38 => ?_) (fun h38 => absurd h38 (by decide))
    refine wv_aload_n dX4_readNested_43 rfl ?_
    refine wv_bipush (v := 41) dX4_readNested_44 (by decide) ?_
    refine wv_v1e oX4_isSign kX4_177 dX4_readNested_46 (by omega) (by first | assumption | rfl) ⟨rfl, by decide⟩ (Nat.le_of_ble_eq_true rfl) (Nat.le_of_ble_eq_true rfl) (cD_isSign hR T s'.1 (frE_T ht hf598 hT) hs8.1 hs8.2.1 _) ?_
    refine wv_if_ne (tgt := 57) dX4_readNested_49 (by decide) (fun h49 => ?_) (fun h49 => ?_)
    · rw [if10, Decidable.not_not] at h49
      rw [if_pos h49]
      refine wv_aload_n dX4_readNested_57 rfl ?_
      refine wv_v0 oX4_step kX4_44 dX4_readNested_58 (by omega) (by first | assumption | rfl) ⟨rfl, by decide⟩ (Nat.le_of_ble_eq_true rfl) (Nat.le_of_ble_eq_true rfl) (cD_step hR T s'.1.2.2.1 (frE_T ht hf598 hT) hs8.2.1.2.2 hs8.1.2.2.1) (fun v7 s7 J7 L7 R7 h7 => ?_)
      obtain ⟨rfl, rfl, rfl, rfl, hk7, hf7⟩ := h7
      refine wv_iconst (v := 1) dX4_readNested_61 (by decide) ?_
      refine wv_zret rfl rfl dX4_readNested_62 ?_
      exact ⟨rfl, rfl, rfl, frE_tr hf598 (frE_K ht hf7), rfl, psV_nx ht hT.2.1 hs8 hk7 hf7, noF_tr hno9 (noF_tr hno8 (noF_K hf7))⟩
    · rw [if10] at h49
      rw [if_neg h49]
      refine wv_aload_n dX4_readNested_52 rfl ?_
      refine wv_v0e oX4_refuse kX4_82 dX4_readNested_53 (by omega) (by first | assumption | rfl) ⟨rfl, by decide⟩ (Nat.le_of_ble_eq_true rfl) (Nat.le_of_ble_eq_true rfl) (cD_refuse hR s'.1 hs8.1 hs8.2.1) ?_
      refine wv_zret rfl rfl dX4_readNested_56 ?_
      exact rf_Q ht hf598 hs8

set_option maxHeartbeats 4000000 in
set_option maxRecDepth 100000 in
theorem cD_term {l : Launch} {L : wr_TL} {R : wr_TR} {T : TP} {t : Nat} (hR : wr_RC R) (ht : t = 3 ∨ t = 10) (hin : R 17 1 = t + 1) (d dp : Nat) (hd : 5 ≤ d) (X : PS → PR) (hX : CT l L R T t d mX4_readUnit dp X) : CT l L R T t (d + 1) mX4_readTerm dp (fun s => pb (X s) (pLp T (tTm T) (fun _ => 20008) X 30)) := by
  intro I s hT hs
  have hg := isG_of hR ht
  obtain ⟨y0, g0, g1, g2, g3, g4, g5, g6, p0, p1, p2, p3, p4, p5⟩ := id hg
  obtain ⟨s1, s2, s3, s4, s5, s6, s7⟩ := id hs
  have lf : ∀ (i : Nat) (J : wr_TI) (e : Int32 × Nat), i ≤ 30 → frE t I J → J 17 9 = e.1 → J 17 10 = nI e.2 → (∃ n, n ≤ 260 ∧ J (t + 1) 2 = nI n) → wr_V l (d + 1) mX4_readTerm 8 [some (.ref 17), some (.int (nI dp)), some (.int 0), some (.int (nI i))] [] SH J L R 0 0 (pQ L R t I (.inr e)) := by
    intro i J e hi hf h1 h2 h3
    refine wv_iload_n dX4_readTerm_8 rfl ?_
    refine wv_bipush (v := 30) dX4_readTerm_9 (by decide) ?_
    refine wv_icmp_ge (tgt := 56) dX4_readTerm_11 (by decide) (fun h11 => ?_) (fun h11 => ?_)
    · refine wv_iload_n dX4_readTerm_56 rfl ?_
      refine wv_zret rfl rfl dX4_readTerm_57 ?_
      exact ⟨rfl, rfl, rfl, hf, rfl, h1, h2, h3⟩
    · refine wv_iload_n dX4_readTerm_14 rfl ?_
      refine wv_if_eq (tgt := 56) dX4_readTerm_15 (by decide) (fun h15 => ?_) (fun h15 => absurd rfl h15)
      refine wv_iload_n dX4_readTerm_56 rfl ?_
      refine wv_zret rfl rfl dX4_readTerm_57 ?_
      exact ⟨rfl, rfl, rfl, hf, rfl, h1, h2, h3⟩
  have lp : ∀ (k i : Nat) (J : wr_TI) (s9 : PS), i + k = 30 → frE t I J → psV J t s9 → noF I J → wr_V l (d + 1) mX4_readTerm 8 [some (.ref 17), some (.int (nI dp)), some (.int 1), some (.int (nI i))] [] SH J L R 0 0 (pQ L R t I (pLp T (tTm T) (fun _ => 20008) X k s9)) := by
    intro k
    induction k with
    | zero =>
      intro i J s9 hi hf hs9 hno
      refine wv_iload_n dX4_readTerm_8 rfl ?_
      refine wv_bipush (v := 30) dX4_readTerm_9 (by decide) ?_
      refine wv_icmp_ge (tgt := 56) dX4_readTerm_11 (by decide) (fun h11 => ?_) (fun h11 => absurd (nI_le (a := 30) (by omega) (by omega)) h11)
      refine wv_iload_n dX4_readTerm_56 rfl ?_
      refine wv_zret rfl rfl dX4_readTerm_57 ?_
      exact ⟨rfl, rfl, rfl, hf, rfl, hs9, hno⟩
    | succ k ih =>
      intro i J s9 hi hf hs9 hno
      have hTJ := frE_T ht hf hT
      show wr_V _ _ _ _ _ _ _ _ _ _ _ _ (pQ L R t I (if (tTm T) s9.1 = true then pb (X (nxt T s9)) (fun s' => pLp T (tTm T) (fun _ => 20008) X k (adC ((fun _ => 20008) s9.1) s')) else .inl s9))
      have go : (tTm T) s9.1 = true → wr_V l (d + 1) mX4_readTerm 27 [some (.ref 17), some (.int (nI dp)), some (.int 1), some (.int (nI i))] [] SH J L R 0 0 (pQ L R t I (pb (X (nxt T s9)) (fun s' => pLp T (tTm T) (fun _ => 20008) X k (adC ((fun _ => 20008) s9.1) s')))) := by
        intro _
        refine wv_aload_n dX4_readTerm_27 rfl ?_
        refine wv_v0 oX4_step kX4_44 dX4_readTerm_28 (by omega) (by first | assumption | rfl) ⟨rfl, by decide⟩ (Nat.le_of_ble_eq_true rfl) (Nat.le_of_ble_eq_true rfl) (cD_step hR T s9.1.2.2.1 hTJ hs9.2.1.2.2 hs9.1.2.2.1) (fun v8 s8 J8 L8 R8 h8 => ?_)
        obtain ⟨rfl, rfl, rfl, rfl, hk8, hf8⟩ := h8
        have hs8 := psV_nx ht hT.2.1 hs9 hk8 hf8
        have hf8i := frE_tr hf (frE_K ht hf8)
        have hno8 := noF_tr hno (noF_K hf8)
        refine wv_aload_n dX4_readTerm_31 rfl ?_
        refine wv_iload_n dX4_readTerm_32 rfl ?_
        refine wv_v1 oX4_readUnit kX4_183 dX4_readTerm_33 (by omega) (by first | assumption | rfl) ⟨rfl, by decide⟩ (Nat.le_of_ble_eq_true rfl) (Nat.le_of_ble_eq_true rfl) (hX J8 _ (frE_T ht hf8i hT) hs8) (fun v7 s7 J7 L7 R7 h7 => ?_)
        cases hx : X (nxt T s9) with
        | inr e =>
          rw [hx] at h7
          obtain ⟨rfl, rfl, rfl, hf7, rfl, q1, q2, n, hn, hnl⟩ := h7
          refine wv_istore_k (i := 2) dX4_readTerm_36 rfl (by decide) ?_
          refine wv_aload_n dX4_readTerm_37 rfl ?_
          refine wv_getR fX4_15 dX4_readTerm_38 rfl (by first | assumption | rfl) (by first | exact hR _ _ _ rfl | assumption) ?_
          refine wv_getR fX4_140 dX4_readTerm_41 rfl (by first | assumption | rfl) (by first | exact hR _ _ _ rfl | assumption) ?_
          refine wv_sipush (v := 20008) dX4_readTerm_44 (by decide) ?_
          refine wv_v1u oX2_add kX4_159 dX4_readTerm_47 (by omega) (by first | assumption | rfl) ⟨rfl, by decide⟩ (Nat.le_of_ble_eq_true rfl) (Nat.le_of_ble_eq_true rfl) (cL_addG t n _ hg hnl hn) ?_
          refine wv_iinc (v := nI (i + 1)) dX4_readTerm_50 rfl (nI_1 (i)) (by decide) ?_
          refine wv_goto (tgt := 8) dX4_readTerm_53 (by decide) ?_
          exact wv_le (by simp [wr_leq, wr_s1, wr_s2, wr_wide]) (lf (i + 1) _ e (by omega) (frE_tr hf8i (frE_tr hf7 (adI_fr ht))) (by rw [adI_17 ht]; exact q1) (by rw [adI_17 ht]; exact q2) (adI_n hnl hn))
        | inl s' =>
          rw [hx] at h7
          obtain ⟨rfl, rfl, rfl, hf7, rfl, hs7, hno7⟩ := h7
          show wr_V _ _ _ _ _ _ _ _ _ _ _ _ (pQ _ _ t I (pLp T (tTm T) (fun _ => 20008) X k (adC ((fun _ => 20008) s9.1) s')))
          refine wv_istore_k (i := 2) dX4_readTerm_36 rfl (by decide) ?_
          refine wv_aload_n dX4_readTerm_37 rfl ?_
          refine wv_getR fX4_15 dX4_readTerm_38 rfl (by first | assumption | rfl) (by first | exact hR _ _ _ rfl | assumption) ?_
          refine wv_getR fX4_140 dX4_readTerm_41 rfl (by first | assumption | rfl) (by first | exact hR _ _ _ rfl | assumption) ?_
          refine wv_sipush (v := 20008) dX4_readTerm_44 (by decide) ?_
          refine wv_v1u oX2_add kX4_159 dX4_readTerm_47 (by omega) (by first | assumption | rfl) ⟨rfl, by decide⟩ (Nat.le_of_ble_eq_true rfl) (Nat.le_of_ble_eq_true rfl) (cL_addG t s'.2.1.2 _ hg hs7.2.2.2.1 hs7.2.2.2.2.1) ?_
          refine wv_iinc (v := nI (i + 1)) dX4_readTerm_50 rfl (nI_1 (i)) (by decide) ?_
          refine wv_goto (tgt := 8) dX4_readTerm_53 (by decide) ?_
          exact wv_le (by simp [wr_leq, wr_s1, wr_s2, wr_wide]) (ih (i + 1) _ _ (by omega) (frE_tr hf8i (frE_tr hf7 (adI_fr ht))) (psV_ad ht hs7 _) (noF_tr hno8 (noF_tr hno7 ⟨by rw [adI_17 ht], by rw [adI_17 ht]⟩)))
      refine wv_iload_n dX4_readTerm_8 rfl ?_
      refine wv_bipush (v := 30) dX4_readTerm_9 (by decide) ?_
      refine wv_icmp_ge (tgt := 56) dX4_readTerm_11 (by decide) (fun h11 => absurd h11 (nI_ge (b := 30) (by omega) (by omega))) (fun h11 => ?_)
      refine wv_iload_n dX4_readTerm_14 rfl ?_
      refine wv_if_eq (tgt := 56) dX4_readTerm_15 (by decide) (fun h15 => absurd h15 (by decide)) (fun h15 => ?_)
      refine wv_aload_n dX4_readTerm_18 rfl ?_
      refine wv_bipush (v := 42) dX4_readTerm_19 (by decide) ?_
      refine wv_v1e oX4_isSign kX4_177 dX4_readTerm_21 (by omega) (by first | assumption | rfl) ⟨rfl, by decide⟩ (Nat.le_of_ble_eq_true rfl) (Nat.le_of_ble_eq_true rfl) (cD_isSign hR T s9.1 hTJ hs9.1 hs9.2.1 _) ?_
      refine wv_if_eq (tgt := 56) dX4_readTerm_24 (by decide) (fun h24 => ?_) (fun h24 => ?_)
      · rw [if10] at h24
        have ht0 : ¬ (tTm T) s9.1 = true := h24
        rw [if_neg ht0]
        refine wv_iload_n dX4_readTerm_56 rfl ?_
        refine wv_zret rfl rfl dX4_readTerm_57 ?_
        exact ⟨rfl, rfl, rfl, hf, rfl, hs9, hno⟩
      · rw [if10, Decidable.not_not] at h24
        have ht1 : (tTm T) s9.1 = true := h24
        rw [if_pos ht1]
        exact wv_le (by simp [wr_leq, wr_s1, wr_s2, wr_wide]) (go ht1)
  show wr_P _ _ _ _ _ _ _ _ (pQ L R t I (pb (X s) (pLp T (tTm T) (fun _ => 20008) X 30)))
  refine wv_pad 2 ?_
  show wr_V l (d + 1) mX4_readTerm 0 [some (.ref 17), some (.int (nI dp)), none, none] [] SH I L R 0 0 _
  refine wv_aload_n dX4_readTerm_0 rfl ?_
  refine wv_iload_n dX4_readTerm_1 rfl ?_
  refine wv_v1 oX4_readUnit kX4_183 dX4_readTerm_2 (by omega) (by first | assumption | rfl) ⟨rfl, by decide⟩ (Nat.le_of_ble_eq_true rfl) (Nat.le_of_ble_eq_true rfl) (hX I s hT hs) (fun v9 s9 J9 L9 R9 h9 => ?_)
  cases hx : X s with
  | inr e =>
    rw [hx] at h9
    obtain ⟨rfl, rfl, rfl, hf9, rfl, q1, q2, q3⟩ := h9
    refine wv_istore_k (i := 2) dX4_readTerm_5 rfl (by decide) ?_
    refine wv_iconst (v := nI 0) dX4_readTerm_6 rfl ?_
    refine wv_istore_k (i := 3) dX4_readTerm_7 rfl (by decide) ?_
    exact wv_le (by simp [wr_leq, wr_s1, wr_s2, wr_wide]) (lf 0 _ e (by omega) hf9 q1 q2 q3)
  | inl s' =>
    rw [hx] at h9
    obtain ⟨rfl, rfl, rfl, hf9, rfl, hs9, hno9⟩ := h9
    refine wv_istore_k (i := 2) dX4_readTerm_5 rfl (by decide) ?_
    refine wv_iconst (v := nI 0) dX4_readTerm_6 rfl ?_
    refine wv_istore_k (i := 3) dX4_readTerm_7 rfl (by decide) ?_
    exact wv_le (by simp [wr_leq, wr_s1, wr_s2, wr_wide]) (lp 30 0 _ s' (by omega) hf9 hs9 hno9)

set_option maxHeartbeats 4000000 in
set_option maxRecDepth 100000 in
theorem cD_sum {l : Launch} {L : wr_TL} {R : wr_TR} {T : TP} {t : Nat} (hR : wr_RC R) (ht : t = 3 ∨ t = 10) (hin : R 17 1 = t + 1) (d dp : Nat) (hd : 5 ≤ d) (X : PS → PR) (hX : CT l L R T t d mX4_readTerm dp X) : CT l L R T t (d + 1) mX4_readSum dp (fun s => pb (X s) (pLp T (tSm T) (oSm T) X 30)) := by
  intro I s hT hs
  have hg := isG_of hR ht
  obtain ⟨y0, g0, g1, g2, g3, g4, g5, g6, p0, p1, p2, p3, p4, p5⟩ := id hg
  obtain ⟨s1, s2, s3, s4, s5, s6, s7⟩ := id hs
  have lf : ∀ (i : Nat) (J : wr_TI) (e : Int32 × Nat), i ≤ 30 → frE t I J → J 17 9 = e.1 → J 17 10 = nI e.2 → (∃ n, n ≤ 260 ∧ J (t + 1) 2 = nI n) → wr_V l (d + 1) mX4_readSum 8 [some (.ref 17), some (.int (nI dp)), some (.int 0), some (.int (nI i)), none] [] SH J L R 0 0 (pQ L R t I (.inr e)) := by
    intro i J e hi hf h1 h2 h3
    refine wv_iload_n dX4_readSum_8 rfl ?_
    refine wv_bipush (v := 30) dX4_readSum_9 (by decide) ?_
    refine wv_icmp_ge (tgt := 84) dX4_readSum_11 (by decide) (fun h11 => ?_) (fun h11 => ?_)
    · refine wv_iload_n dX4_readSum_84 rfl ?_
      refine wv_zret rfl rfl dX4_readSum_85 ?_
      exact ⟨rfl, rfl, rfl, hf, rfl, h1, h2, h3⟩
    · refine wv_iload_n dX4_readSum_14 rfl ?_
      refine wv_if_eq (tgt := 84) dX4_readSum_15 (by decide) (fun h15 => ?_) (fun h15 => absurd rfl h15)
      refine wv_iload_n dX4_readSum_84 rfl ?_
      refine wv_zret rfl rfl dX4_readSum_85 ?_
      exact ⟨rfl, rfl, rfl, hf, rfl, h1, h2, h3⟩
  have lp : ∀ (k i : Nat) (J : wr_TI) (s9 : PS), i + k = 30 → frE t I J → psV J t s9 → noF I J → wr_V l (d + 1) mX4_readSum 8 [some (.ref 17), some (.int (nI dp)), some (.int 1), some (.int (nI i)), none] [] SH J L R 0 0 (pQ L R t I (pLp T (tSm T) (oSm T) X k s9)) := by
    intro k
    induction k with
    | zero =>
      intro i J s9 hi hf hs9 hno
      refine wv_iload_n dX4_readSum_8 rfl ?_
      refine wv_bipush (v := 30) dX4_readSum_9 (by decide) ?_
      refine wv_icmp_ge (tgt := 84) dX4_readSum_11 (by decide) (fun h11 => ?_) (fun h11 => absurd (nI_le (a := 30) (by omega) (by omega)) h11)
      refine wv_iload_n dX4_readSum_84 rfl ?_
      refine wv_zret rfl rfl dX4_readSum_85 ?_
      exact ⟨rfl, rfl, rfl, hf, rfl, hs9, hno⟩
    | succ k ih =>
      intro i J s9 hi hf hs9 hno
      have hTJ := frE_T ht hf hT
      show wr_V _ _ _ _ _ _ _ _ _ _ _ _ (pQ L R t I (if (tSm T) s9.1 = true then pb (X (nxt T s9)) (fun s' => pLp T (tSm T) (oSm T) X k (adC ((oSm T) s9.1) s')) else .inl s9))
      have go : (tSm T) s9.1 = true → wr_V l (d + 1) mX4_readSum 56 [some (.ref 17), some (.int (nI dp)), some (.int 1), some (.int (nI i)), some (.int (oSm T s9.1))] [] SH J L R 0 0 (pQ L R t I (pb (X (nxt T s9)) (fun s' => pLp T (tSm T) (oSm T) X k (adC ((oSm T) s9.1) s')))) := by
        intro _
        refine wv_aload_n dX4_readSum_56 rfl ?_
        refine wv_v0 oX4_step kX4_44 dX4_readSum_57 (by omega) (by first | assumption | rfl) ⟨rfl, by decide⟩ (Nat.le_of_ble_eq_true rfl) (Nat.le_of_ble_eq_true rfl) (cD_step hR T s9.1.2.2.1 hTJ hs9.2.1.2.2 hs9.1.2.2.1) (fun v8 s8 J8 L8 R8 h8 => ?_)
        obtain ⟨rfl, rfl, rfl, rfl, hk8, hf8⟩ := h8
        have hs8 := psV_nx ht hT.2.1 hs9 hk8 hf8
        have hf8i := frE_tr hf (frE_K ht hf8)
        have hno8 := noF_tr hno (noF_K hf8)
        refine wv_aload_n dX4_readSum_60 rfl ?_
        refine wv_iload_n dX4_readSum_61 rfl ?_
        refine wv_v1 oX4_readTerm kX4_180 dX4_readSum_62 (by omega) (by first | assumption | rfl) ⟨rfl, by decide⟩ (Nat.le_of_ble_eq_true rfl) (Nat.le_of_ble_eq_true rfl) (hX J8 _ (frE_T ht hf8i hT) hs8) (fun v7 s7 J7 L7 R7 h7 => ?_)
        cases hx : X (nxt T s9) with
        | inr e =>
          rw [hx] at h7
          obtain ⟨rfl, rfl, rfl, hf7, rfl, q1, q2, n, hn, hnl⟩ := h7
          refine wv_istore_k (i := 2) dX4_readSum_65 rfl (by decide) ?_
          refine wv_aload_n dX4_readSum_66 rfl ?_
          refine wv_getR fX4_15 dX4_readSum_67 rfl (by first | assumption | rfl) (by first | exact hR _ _ _ rfl | assumption) ?_
          refine wv_getR fX4_140 dX4_readSum_70 rfl (by first | assumption | rfl) (by first | exact hR _ _ _ rfl | assumption) ?_
          refine wv_iload dX4_readSum_73 rfl ?_
          refine wv_v1u oX2_add kX4_159 dX4_readSum_75 (by omega) (by first | assumption | rfl) ⟨rfl, by decide⟩ (Nat.le_of_ble_eq_true rfl) (Nat.le_of_ble_eq_true rfl) (cL_addG t n _ hg hnl hn) ?_
          refine wv_iinc (v := nI (i + 1)) dX4_readSum_78 rfl (nI_1 (i)) (by decide) ?_
          refine wv_goto (tgt := 8) dX4_readSum_81 (by decide) ?_
          exact wv_le (by simp [wr_leq, wr_s1, wr_s2, wr_wide]) (lf (i + 1) _ e (by omega) (frE_tr hf8i (frE_tr hf7 (adI_fr ht))) (by rw [adI_17 ht]; exact q1) (by rw [adI_17 ht]; exact q2) (adI_n hnl hn))
        | inl s' =>
          rw [hx] at h7
          obtain ⟨rfl, rfl, rfl, hf7, rfl, hs7, hno7⟩ := h7
          show wr_V _ _ _ _ _ _ _ _ _ _ _ _ (pQ _ _ t I (pLp T (tSm T) (oSm T) X k (adC ((oSm T) s9.1) s')))
          refine wv_istore_k (i := 2) dX4_readSum_65 rfl (by decide) ?_
          refine wv_aload_n dX4_readSum_66 rfl ?_
          refine wv_getR fX4_15 dX4_readSum_67 rfl (by first | assumption | rfl) (by first | exact hR _ _ _ rfl | assumption) ?_
          refine wv_getR fX4_140 dX4_readSum_70 rfl (by first | assumption | rfl) (by first | exact hR _ _ _ rfl | assumption) ?_
          refine wv_iload dX4_readSum_73 rfl ?_
          refine wv_v1u oX2_add kX4_159 dX4_readSum_75 (by omega) (by first | assumption | rfl) ⟨rfl, by decide⟩ (Nat.le_of_ble_eq_true rfl) (Nat.le_of_ble_eq_true rfl) (cL_addG t s'.2.1.2 _ hg hs7.2.2.2.1 hs7.2.2.2.2.1) ?_
          refine wv_iinc (v := nI (i + 1)) dX4_readSum_78 rfl (nI_1 (i)) (by decide) ?_
          refine wv_goto (tgt := 8) dX4_readSum_81 (by decide) ?_
          exact wv_le (by simp [wr_leq, wr_s1, wr_s2, wr_wide]) (ih (i + 1) _ _ (by omega) (frE_tr hf8i (frE_tr hf7 (adI_fr ht))) (psV_ad ht hs7 _) (noF_tr hno8 (noF_tr hno7 ⟨by rw [adI_17 ht], by rw [adI_17 ht]⟩)))
      refine wv_iload_n dX4_readSum_8 rfl ?_
      refine wv_bipush (v := 30) dX4_readSum_9 (by decide) ?_
      refine wv_icmp_ge (tgt := 84) dX4_readSum_11 (by decide) (fun h11 => absurd h11 (nI_ge (b := 30) (by omega) (by omega))) (fun h11 => ?_)
      refine wv_iload_n dX4_readSum_14 rfl ?_
      refine wv_if_eq (tgt := 84) dX4_readSum_15 (by decide) (fun h15 => absurd h15 (by decide)) (fun h15 => ?_)
      refine wv_aload_n dX4_readSum_18 rfl ?_
      refine wv_bipush (v := 43) dX4_readSum_19 (by decide) ?_
      refine wv_v1e oX4_isSign kX4_177 dX4_readSum_21 (by omega) (by first | assumption | rfl) ⟨rfl, by decide⟩ (Nat.le_of_ble_eq_true rfl) (Nat.le_of_ble_eq_true rfl) (cD_isSign hR T s9.1 hTJ hs9.1 hs9.2.1 _) ?_
      refine wv_if_ne (tgt := 36) dX4_readSum_24 (by decide) (fun h24 => ?_) (fun h24 => ?_)
      · rw [if10, Decidable.not_not] at h24
        have ht1 : tSm T s9.1 = true := by simp [tSm, h24]
        rw [if_pos ht1]
        refine wv_aload_n dX4_readSum_36 rfl ?_
        refine wv_bipush (v := 43) dX4_readSum_37 (by decide) ?_
        refine wv_v1e oX4_isSign kX4_177 dX4_readSum_39 (by omega) (by first | assumption | rfl) ⟨rfl, by decide⟩ (Nat.le_of_ble_eq_true rfl) (Nat.le_of_ble_eq_true rfl) (cD_isSign hR T s9.1 hTJ hs9.1 hs9.2.1 _) ?_
        refine wv_if_eq (tgt := 51) dX4_readSum_42 (by decide) (fun h42 => ?_) (fun h42 => ?_)
        · rw [if10] at h42
          have eo : (20007 : Int32) = oSm T s9.1 := by simp [oSm, h42]
          refine wv_sipush (v := 20007) dX4_readSum_51 (by decide) ?_
          rw [eo]
          refine wv_istore dX4_readSum_54 (by decide) ?_
          exact wv_le (by simp [wr_leq, wr_s1, wr_s2, wr_wide]) (go ht1)
        · rw [if10, Decidable.not_not] at h42
          have eo : (20006 : Int32) = oSm T s9.1 := by simp [oSm, h42]
          refine wv_sipush (v := 20006) dX4_readSum_45 (by decide) ?_
          refine wv_goto (tgt := 54) dX4_readSum_48 (by decide) ?_
          rw [eo]
          refine wv_istore dX4_readSum_54 (by decide) ?_
          exact wv_le (by simp [wr_leq, wr_s1, wr_s2, wr_wide]) (go ht1)
      · rw [if10] at h24
        refine wv_aload_n dX4_readSum_27 rfl ?_
        refine wv_bipush (v := 45) dX4_readSum_28 (by decide) ?_
        refine wv_v1e oX4_isSign kX4_177 dX4_readSum_30 (by omega) (by first | assumption | rfl) ⟨rfl, by decide⟩ (Nat.le_of_ble_eq_true rfl) (Nat.le_of_ble_eq_true rfl) (cD_isSign hR T s9.1 hTJ hs9.1 hs9.2.1 _) ?_
        refine wv_if_eq (tgt := 84) dX4_readSum_33 (by decide) (fun h33 => ?_) (fun h33 => ?_)
        · rw [if10] at h33
          have ht0 : ¬ tSm T s9.1 = true := by simp [tSm, h24, h33]
          rw [if_neg ht0]
          refine wv_iload_n dX4_readSum_84 rfl ?_
          refine wv_zret rfl rfl dX4_readSum_85 ?_
          exact ⟨rfl, rfl, rfl, hf, rfl, hs9, hno⟩
        · rw [if10, Decidable.not_not] at h33
          have ht1 : tSm T s9.1 = true := by simp [tSm, h33]
          rw [if_pos ht1]
          refine wv_aload_n dX4_readSum_36 rfl ?_
          refine wv_bipush (v := 43) dX4_readSum_37 (by decide) ?_
          refine wv_v1e oX4_isSign kX4_177 dX4_readSum_39 (by omega) (by first | assumption | rfl) ⟨rfl, by decide⟩ (Nat.le_of_ble_eq_true rfl) (Nat.le_of_ble_eq_true rfl) (cD_isSign hR T s9.1 hTJ hs9.1 hs9.2.1 _) ?_
          refine wv_if_eq (tgt := 51) dX4_readSum_42 (by decide) (fun h42 => ?_) (fun h42 => ?_)
          · rw [if10] at h42
            have eo : (20007 : Int32) = oSm T s9.1 := by simp [oSm, h42]
            refine wv_sipush (v := 20007) dX4_readSum_51 (by decide) ?_
            rw [eo]
            refine wv_istore dX4_readSum_54 (by decide) ?_
            exact wv_le (by simp [wr_leq, wr_s1, wr_s2, wr_wide]) (go ht1)
          · rw [if10, Decidable.not_not] at h42
            have eo : (20006 : Int32) = oSm T s9.1 := by simp [oSm, h42]
            refine wv_sipush (v := 20006) dX4_readSum_45 (by decide) ?_
            refine wv_goto (tgt := 54) dX4_readSum_48 (by decide) ?_
            rw [eo]
            refine wv_istore dX4_readSum_54 (by decide) ?_
            exact wv_le (by simp [wr_leq, wr_s1, wr_s2, wr_wide]) (go ht1)
  show wr_P _ _ _ _ _ _ _ _ (pQ L R t I (pb (X s) (pLp T (tSm T) (oSm T) X 30)))
  refine wv_pad 3 ?_
  show wr_V l (d + 1) mX4_readSum 0 [some (.ref 17), some (.int (nI dp)), none, none, none] [] SH I L R 0 0 _
  refine wv_aload_n dX4_readSum_0 rfl ?_
  refine wv_iload_n dX4_readSum_1 rfl ?_
  refine wv_v1 oX4_readTerm kX4_180 dX4_readSum_2 (by omega) (by first | assumption | rfl) ⟨rfl, by decide⟩ (Nat.le_of_ble_eq_true rfl) (Nat.le_of_ble_eq_true rfl) (hX I s hT hs) (fun v9 s9 J9 L9 R9 h9 => ?_)
  cases hx : X s with
  | inr e =>
    rw [hx] at h9
    obtain ⟨rfl, rfl, rfl, hf9, rfl, q1, q2, q3⟩ := h9
    refine wv_istore_k (i := 2) dX4_readSum_5 rfl (by decide) ?_
    refine wv_iconst (v := nI 0) dX4_readSum_6 rfl ?_
    refine wv_istore_k (i := 3) dX4_readSum_7 rfl (by decide) ?_
    exact wv_le (by simp [wr_leq, wr_s1, wr_s2, wr_wide]) (lf 0 _ e (by omega) hf9 q1 q2 q3)
  | inl s' =>
    rw [hx] at h9
    obtain ⟨rfl, rfl, rfl, hf9, rfl, hs9, hno9⟩ := h9
    refine wv_istore_k (i := 2) dX4_readSum_5 rfl (by decide) ?_
    refine wv_iconst (v := nI 0) dX4_readSum_6 rfl ?_
    refine wv_istore_k (i := 3) dX4_readSum_7 rfl (by decide) ?_
    exact wv_le (by simp [wr_leq, wr_s1, wr_s2, wr_wide]) (lp 30 0 _ s' (by omega) hf9 hs9 hno9)

set_option maxHeartbeats 4000000 in
set_option maxRecDepth 100000 in
theorem cD_both {l : Launch} {L : wr_TL} {R : wr_TR} {T : TP} {t : Nat} (hR : wr_RC R) (ht : t = 3 ∨ t = 10) (hin : R 17 1 = t + 1) (d dp : Nat) (hd : 5 ≤ d) (X : PS → PR) (hX : CT l L R T t d mX4_readOne dp X) : CT l L R T t (d + 1) mX4_readBoth dp (fun s => pb (X s) (pLp T (fun k => isWd T k 20) (fun _ => 20001) X 30)) := by
  intro I s hT hs
  have hg := isG_of hR ht
  obtain ⟨y0, g0, g1, g2, g3, g4, g5, g6, p0, p1, p2, p3, p4, p5⟩ := id hg
  obtain ⟨s1, s2, s3, s4, s5, s6, s7⟩ := id hs
  have lf : ∀ (i : Nat) (J : wr_TI) (e : Int32 × Nat), i ≤ 30 → frE t I J → J 17 9 = e.1 → J 17 10 = nI e.2 → (∃ n, n ≤ 260 ∧ J (t + 1) 2 = nI n) → wr_V l (d + 1) mX4_readBoth 8 [some (.ref 17), some (.int (nI dp)), some (.int 0), some (.int (nI i))] [] SH J L R 0 0 (pQ L R t I (.inr e)) := by
    intro i J e hi hf h1 h2 h3
    refine wv_iload_n dX4_readBoth_8 rfl ?_
    refine wv_bipush (v := 30) dX4_readBoth_9 (by decide) ?_
    refine wv_icmp_ge (tgt := 56) dX4_readBoth_11 (by decide) (fun h11 => ?_) (fun h11 => ?_)
    · refine wv_iload_n dX4_readBoth_56 rfl ?_
      refine wv_zret rfl rfl dX4_readBoth_57 ?_
      exact ⟨rfl, rfl, rfl, hf, rfl, h1, h2, h3⟩
    · refine wv_iload_n dX4_readBoth_14 rfl ?_
      refine wv_if_eq (tgt := 56) dX4_readBoth_15 (by decide) (fun h15 => ?_) (fun h15 => absurd rfl h15)
      refine wv_iload_n dX4_readBoth_56 rfl ?_
      refine wv_zret rfl rfl dX4_readBoth_57 ?_
      exact ⟨rfl, rfl, rfl, hf, rfl, h1, h2, h3⟩
  have lp : ∀ (k i : Nat) (J : wr_TI) (s9 : PS), i + k = 30 → frE t I J → psV J t s9 → noF I J → wr_V l (d + 1) mX4_readBoth 8 [some (.ref 17), some (.int (nI dp)), some (.int 1), some (.int (nI i))] [] SH J L R 0 0 (pQ L R t I (pLp T (fun k => isWd T k 20) (fun _ => 20001) X k s9)) := by
    intro k
    induction k with
    | zero =>
      intro i J s9 hi hf hs9 hno
      refine wv_iload_n dX4_readBoth_8 rfl ?_
      refine wv_bipush (v := 30) dX4_readBoth_9 (by decide) ?_
      refine wv_icmp_ge (tgt := 56) dX4_readBoth_11 (by decide) (fun h11 => ?_) (fun h11 => absurd (nI_le (a := 30) (by omega) (by omega)) h11)
      refine wv_iload_n dX4_readBoth_56 rfl ?_
      refine wv_zret rfl rfl dX4_readBoth_57 ?_
      exact ⟨rfl, rfl, rfl, hf, rfl, hs9, hno⟩
    | succ k ih =>
      intro i J s9 hi hf hs9 hno
      have hTJ := frE_T ht hf hT
      show wr_V _ _ _ _ _ _ _ _ _ _ _ _ (pQ L R t I (if (fun k => isWd T k 20) s9.1 = true then pb (X (nxt T s9)) (fun s' => pLp T (fun k => isWd T k 20) (fun _ => 20001) X k (adC ((fun _ => 20001) s9.1) s')) else .inl s9))
      have go : (fun k => isWd T k 20) s9.1 = true → wr_V l (d + 1) mX4_readBoth 27 [some (.ref 17), some (.int (nI dp)), some (.int 1), some (.int (nI i))] [] SH J L R 0 0 (pQ L R t I (pb (X (nxt T s9)) (fun s' => pLp T (fun k => isWd T k 20) (fun _ => 20001) X k (adC ((fun _ => 20001) s9.1) s')))) := by
        intro _
        refine wv_aload_n dX4_readBoth_27 rfl ?_
        refine wv_v0 oX4_step kX4_44 dX4_readBoth_28 (by omega) (by first | assumption | rfl) ⟨rfl, by decide⟩ (Nat.le_of_ble_eq_true rfl) (Nat.le_of_ble_eq_true rfl) (cD_step hR T s9.1.2.2.1 hTJ hs9.2.1.2.2 hs9.1.2.2.1) (fun v8 s8 J8 L8 R8 h8 => ?_)
        obtain ⟨rfl, rfl, rfl, rfl, hk8, hf8⟩ := h8
        have hs8 := psV_nx ht hT.2.1 hs9 hk8 hf8
        have hf8i := frE_tr hf (frE_K ht hf8)
        have hno8 := noF_tr hno (noF_K hf8)
        refine wv_aload_n dX4_readBoth_31 rfl ?_
        refine wv_iload_n dX4_readBoth_32 rfl ?_
        refine wv_v1 oX4_readOne kX4_163 dX4_readBoth_33 (by omega) (by first | assumption | rfl) ⟨rfl, by decide⟩ (Nat.le_of_ble_eq_true rfl) (Nat.le_of_ble_eq_true rfl) (hX J8 _ (frE_T ht hf8i hT) hs8) (fun v7 s7 J7 L7 R7 h7 => ?_)
        cases hx : X (nxt T s9) with
        | inr e =>
          rw [hx] at h7
          obtain ⟨rfl, rfl, rfl, hf7, rfl, q1, q2, n, hn, hnl⟩ := h7
          refine wv_istore_k (i := 2) dX4_readBoth_36 rfl (by decide) ?_
          refine wv_aload_n dX4_readBoth_37 rfl ?_
          refine wv_getR fX4_15 dX4_readBoth_38 rfl (by first | assumption | rfl) (by first | exact hR _ _ _ rfl | assumption) ?_
          refine wv_getR fX4_140 dX4_readBoth_41 rfl (by first | assumption | rfl) (by first | exact hR _ _ _ rfl | assumption) ?_
          refine wv_sipush (v := 20001) dX4_readBoth_44 (by decide) ?_
          refine wv_v1u oX2_add kX4_159 dX4_readBoth_47 (by omega) (by first | assumption | rfl) ⟨rfl, by decide⟩ (Nat.le_of_ble_eq_true rfl) (Nat.le_of_ble_eq_true rfl) (cL_addG t n _ hg hnl hn) ?_
          refine wv_iinc (v := nI (i + 1)) dX4_readBoth_50 rfl (nI_1 (i)) (by decide) ?_
          refine wv_goto (tgt := 8) dX4_readBoth_53 (by decide) ?_
          exact wv_le (by simp [wr_leq, wr_s1, wr_s2, wr_wide]) (lf (i + 1) _ e (by omega) (frE_tr hf8i (frE_tr hf7 (adI_fr ht))) (by rw [adI_17 ht]; exact q1) (by rw [adI_17 ht]; exact q2) (adI_n hnl hn))
        | inl s' =>
          rw [hx] at h7
          obtain ⟨rfl, rfl, rfl, hf7, rfl, hs7, hno7⟩ := h7
          show wr_V _ _ _ _ _ _ _ _ _ _ _ _ (pQ _ _ t I (pLp T (fun k => isWd T k 20) (fun _ => 20001) X k (adC ((fun _ => 20001) s9.1) s')))
          refine wv_istore_k (i := 2) dX4_readBoth_36 rfl (by decide) ?_
          refine wv_aload_n dX4_readBoth_37 rfl ?_
          refine wv_getR fX4_15 dX4_readBoth_38 rfl (by first | assumption | rfl) (by first | exact hR _ _ _ rfl | assumption) ?_
          refine wv_getR fX4_140 dX4_readBoth_41 rfl (by first | assumption | rfl) (by first | exact hR _ _ _ rfl | assumption) ?_
          refine wv_sipush (v := 20001) dX4_readBoth_44 (by decide) ?_
          refine wv_v1u oX2_add kX4_159 dX4_readBoth_47 (by omega) (by first | assumption | rfl) ⟨rfl, by decide⟩ (Nat.le_of_ble_eq_true rfl) (Nat.le_of_ble_eq_true rfl) (cL_addG t s'.2.1.2 _ hg hs7.2.2.2.1 hs7.2.2.2.2.1) ?_
          refine wv_iinc (v := nI (i + 1)) dX4_readBoth_50 rfl (nI_1 (i)) (by decide) ?_
          refine wv_goto (tgt := 8) dX4_readBoth_53 (by decide) ?_
          exact wv_le (by simp [wr_leq, wr_s1, wr_s2, wr_wide]) (ih (i + 1) _ _ (by omega) (frE_tr hf8i (frE_tr hf7 (adI_fr ht))) (psV_ad ht hs7 _) (noF_tr hno8 (noF_tr hno7 ⟨by rw [adI_17 ht], by rw [adI_17 ht]⟩)))
      refine wv_iload_n dX4_readBoth_8 rfl ?_
      refine wv_bipush (v := 30) dX4_readBoth_9 (by decide) ?_
      refine wv_icmp_ge (tgt := 56) dX4_readBoth_11 (by decide) (fun h11 => absurd h11 (nI_ge (b := 30) (by omega) (by omega))) (fun h11 => ?_)
      refine wv_iload_n dX4_readBoth_14 rfl ?_
      refine wv_if_eq (tgt := 56) dX4_readBoth_15 (by decide) (fun h15 => absurd h15 (by decide)) (fun h15 => ?_)
      refine wv_aload_n dX4_readBoth_18 rfl ?_
      refine wv_ldcS (i := 20) rfl (by decide) rfl dX4_readBoth_19 ?_
      refine wv_v1e oX4_isWord kX4_56 dX4_readBoth_21 (by omega) (by first | assumption | rfl) ⟨rfl, by decide⟩ (Nat.le_of_ble_eq_true rfl) (Nat.le_of_ble_eq_true rfl) (cD_isWord hR T s9.1 hTJ hs9.1 hs9.2.1 20 (by decide)) ?_
      refine wv_if_eq (tgt := 56) dX4_readBoth_24 (by decide) (fun h24 => ?_) (fun h24 => ?_)
      · rw [if10] at h24
        have ht0 : ¬ (fun k => isWd T k 20) s9.1 = true := h24
        rw [if_neg ht0]
        refine wv_iload_n dX4_readBoth_56 rfl ?_
        refine wv_zret rfl rfl dX4_readBoth_57 ?_
        exact ⟨rfl, rfl, rfl, hf, rfl, hs9, hno⟩
      · rw [if10, Decidable.not_not] at h24
        have ht1 : (fun k => isWd T k 20) s9.1 = true := h24
        rw [if_pos ht1]
        exact wv_le (by simp [wr_leq, wr_s1, wr_s2, wr_wide]) (go ht1)
  show wr_P _ _ _ _ _ _ _ _ (pQ L R t I (pb (X s) (pLp T (fun k => isWd T k 20) (fun _ => 20001) X 30)))
  refine wv_pad 2 ?_
  show wr_V l (d + 1) mX4_readBoth 0 [some (.ref 17), some (.int (nI dp)), none, none] [] SH I L R 0 0 _
  refine wv_aload_n dX4_readBoth_0 rfl ?_
  refine wv_iload_n dX4_readBoth_1 rfl ?_
  refine wv_v1 oX4_readOne kX4_163 dX4_readBoth_2 (by omega) (by first | assumption | rfl) ⟨rfl, by decide⟩ (Nat.le_of_ble_eq_true rfl) (Nat.le_of_ble_eq_true rfl) (hX I s hT hs) (fun v9 s9 J9 L9 R9 h9 => ?_)
  cases hx : X s with
  | inr e =>
    rw [hx] at h9
    obtain ⟨rfl, rfl, rfl, hf9, rfl, q1, q2, q3⟩ := h9
    refine wv_istore_k (i := 2) dX4_readBoth_5 rfl (by decide) ?_
    refine wv_iconst (v := nI 0) dX4_readBoth_6 rfl ?_
    refine wv_istore_k (i := 3) dX4_readBoth_7 rfl (by decide) ?_
    exact wv_le (by simp [wr_leq, wr_s1, wr_s2, wr_wide]) (lf 0 _ e (by omega) hf9 q1 q2 q3)
  | inl s' =>
    rw [hx] at h9
    obtain ⟨rfl, rfl, rfl, hf9, rfl, hs9, hno9⟩ := h9
    refine wv_istore_k (i := 2) dX4_readBoth_5 rfl (by decide) ?_
    refine wv_iconst (v := nI 0) dX4_readBoth_6 rfl ?_
    refine wv_istore_k (i := 3) dX4_readBoth_7 rfl (by decide) ?_
    exact wv_le (by simp [wr_leq, wr_s1, wr_s2, wr_wide]) (lp 30 0 _ s' (by omega) hf9 hs9 hno9)

set_option maxHeartbeats 4000000 in
set_option maxRecDepth 100000 in
theorem cD_eith {l : Launch} {L : wr_TL} {R : wr_TR} {T : TP} {t : Nat} (hR : wr_RC R) (ht : t = 3 ∨ t = 10) (hin : R 17 1 = t + 1) (d dp : Nat) (hd : 5 ≤ d) (X : PS → PR) (hX : CT l L R T t d mX4_readBoth dp X) : CT l L R T t (d + 1) mX4_readEither dp (fun s => pb (X s) (pLp T (fun k => isWd T k 21) (fun _ => 20002) X 30)) := by
  intro I s hT hs
  have hg := isG_of hR ht
  obtain ⟨y0, g0, g1, g2, g3, g4, g5, g6, p0, p1, p2, p3, p4, p5⟩ := id hg
  obtain ⟨s1, s2, s3, s4, s5, s6, s7⟩ := id hs
  have lf : ∀ (i : Nat) (J : wr_TI) (e : Int32 × Nat), i ≤ 30 → frE t I J → J 17 9 = e.1 → J 17 10 = nI e.2 → (∃ n, n ≤ 260 ∧ J (t + 1) 2 = nI n) → wr_V l (d + 1) mX4_readEither 8 [some (.ref 17), some (.int (nI dp)), some (.int 0), some (.int (nI i))] [] SH J L R 0 0 (pQ L R t I (.inr e)) := by
    intro i J e hi hf h1 h2 h3
    refine wv_iload_n dX4_readEither_8 rfl ?_
    refine wv_bipush (v := 30) dX4_readEither_9 (by decide) ?_
    refine wv_icmp_ge (tgt := 56) dX4_readEither_11 (by decide) (fun h11 => ?_) (fun h11 => ?_)
    · refine wv_iload_n dX4_readEither_56 rfl ?_
      refine wv_zret rfl rfl dX4_readEither_57 ?_
      exact ⟨rfl, rfl, rfl, hf, rfl, h1, h2, h3⟩
    · refine wv_iload_n dX4_readEither_14 rfl ?_
      refine wv_if_eq (tgt := 56) dX4_readEither_15 (by decide) (fun h15 => ?_) (fun h15 => absurd rfl h15)
      refine wv_iload_n dX4_readEither_56 rfl ?_
      refine wv_zret rfl rfl dX4_readEither_57 ?_
      exact ⟨rfl, rfl, rfl, hf, rfl, h1, h2, h3⟩
  have lp : ∀ (k i : Nat) (J : wr_TI) (s9 : PS), i + k = 30 → frE t I J → psV J t s9 → noF I J → wr_V l (d + 1) mX4_readEither 8 [some (.ref 17), some (.int (nI dp)), some (.int 1), some (.int (nI i))] [] SH J L R 0 0 (pQ L R t I (pLp T (fun k => isWd T k 21) (fun _ => 20002) X k s9)) := by
    intro k
    induction k with
    | zero =>
      intro i J s9 hi hf hs9 hno
      refine wv_iload_n dX4_readEither_8 rfl ?_
      refine wv_bipush (v := 30) dX4_readEither_9 (by decide) ?_
      refine wv_icmp_ge (tgt := 56) dX4_readEither_11 (by decide) (fun h11 => ?_) (fun h11 => absurd (nI_le (a := 30) (by omega) (by omega)) h11)
      refine wv_iload_n dX4_readEither_56 rfl ?_
      refine wv_zret rfl rfl dX4_readEither_57 ?_
      exact ⟨rfl, rfl, rfl, hf, rfl, hs9, hno⟩
    | succ k ih =>
      intro i J s9 hi hf hs9 hno
      have hTJ := frE_T ht hf hT
      show wr_V _ _ _ _ _ _ _ _ _ _ _ _ (pQ L R t I (if (fun k => isWd T k 21) s9.1 = true then pb (X (nxt T s9)) (fun s' => pLp T (fun k => isWd T k 21) (fun _ => 20002) X k (adC ((fun _ => 20002) s9.1) s')) else .inl s9))
      have go : (fun k => isWd T k 21) s9.1 = true → wr_V l (d + 1) mX4_readEither 27 [some (.ref 17), some (.int (nI dp)), some (.int 1), some (.int (nI i))] [] SH J L R 0 0 (pQ L R t I (pb (X (nxt T s9)) (fun s' => pLp T (fun k => isWd T k 21) (fun _ => 20002) X k (adC ((fun _ => 20002) s9.1) s')))) := by
        intro _
        refine wv_aload_n dX4_readEither_27 rfl ?_
        refine wv_v0 oX4_step kX4_44 dX4_readEither_28 (by omega) (by first | assumption | rfl) ⟨rfl, by decide⟩ (Nat.le_of_ble_eq_true rfl) (Nat.le_of_ble_eq_true rfl) (cD_step hR T s9.1.2.2.1 hTJ hs9.2.1.2.2 hs9.1.2.2.1) (fun v8 s8 J8 L8 R8 h8 => ?_)
        obtain ⟨rfl, rfl, rfl, rfl, hk8, hf8⟩ := h8
        have hs8 := psV_nx ht hT.2.1 hs9 hk8 hf8
        have hf8i := frE_tr hf (frE_K ht hf8)
        have hno8 := noF_tr hno (noF_K hf8)
        refine wv_aload_n dX4_readEither_31 rfl ?_
        refine wv_iload_n dX4_readEither_32 rfl ?_
        refine wv_v1 oX4_readBoth kX4_154 dX4_readEither_33 (by omega) (by first | assumption | rfl) ⟨rfl, by decide⟩ (Nat.le_of_ble_eq_true rfl) (Nat.le_of_ble_eq_true rfl) (hX J8 _ (frE_T ht hf8i hT) hs8) (fun v7 s7 J7 L7 R7 h7 => ?_)
        cases hx : X (nxt T s9) with
        | inr e =>
          rw [hx] at h7
          obtain ⟨rfl, rfl, rfl, hf7, rfl, q1, q2, n, hn, hnl⟩ := h7
          refine wv_istore_k (i := 2) dX4_readEither_36 rfl (by decide) ?_
          refine wv_aload_n dX4_readEither_37 rfl ?_
          refine wv_getR fX4_15 dX4_readEither_38 rfl (by first | assumption | rfl) (by first | exact hR _ _ _ rfl | assumption) ?_
          refine wv_getR fX4_140 dX4_readEither_41 rfl (by first | assumption | rfl) (by first | exact hR _ _ _ rfl | assumption) ?_
          refine wv_sipush (v := 20002) dX4_readEither_44 (by decide) ?_
          refine wv_v1u oX2_add kX4_159 dX4_readEither_47 (by omega) (by first | assumption | rfl) ⟨rfl, by decide⟩ (Nat.le_of_ble_eq_true rfl) (Nat.le_of_ble_eq_true rfl) (cL_addG t n _ hg hnl hn) ?_
          refine wv_iinc (v := nI (i + 1)) dX4_readEither_50 rfl (nI_1 (i)) (by decide) ?_
          refine wv_goto (tgt := 8) dX4_readEither_53 (by decide) ?_
          exact wv_le (by simp [wr_leq, wr_s1, wr_s2, wr_wide]) (lf (i + 1) _ e (by omega) (frE_tr hf8i (frE_tr hf7 (adI_fr ht))) (by rw [adI_17 ht]; exact q1) (by rw [adI_17 ht]; exact q2) (adI_n hnl hn))
        | inl s' =>
          rw [hx] at h7
          obtain ⟨rfl, rfl, rfl, hf7, rfl, hs7, hno7⟩ := h7
          show wr_V _ _ _ _ _ _ _ _ _ _ _ _ (pQ _ _ t I (pLp T (fun k => isWd T k 21) (fun _ => 20002) X k (adC ((fun _ => 20002) s9.1) s')))
          refine wv_istore_k (i := 2) dX4_readEither_36 rfl (by decide) ?_
          refine wv_aload_n dX4_readEither_37 rfl ?_
          refine wv_getR fX4_15 dX4_readEither_38 rfl (by first | assumption | rfl) (by first | exact hR _ _ _ rfl | assumption) ?_
          refine wv_getR fX4_140 dX4_readEither_41 rfl (by first | assumption | rfl) (by first | exact hR _ _ _ rfl | assumption) ?_
          refine wv_sipush (v := 20002) dX4_readEither_44 (by decide) ?_
          refine wv_v1u oX2_add kX4_159 dX4_readEither_47 (by omega) (by first | assumption | rfl) ⟨rfl, by decide⟩ (Nat.le_of_ble_eq_true rfl) (Nat.le_of_ble_eq_true rfl) (cL_addG t s'.2.1.2 _ hg hs7.2.2.2.1 hs7.2.2.2.2.1) ?_
          refine wv_iinc (v := nI (i + 1)) dX4_readEither_50 rfl (nI_1 (i)) (by decide) ?_
          refine wv_goto (tgt := 8) dX4_readEither_53 (by decide) ?_
          exact wv_le (by simp [wr_leq, wr_s1, wr_s2, wr_wide]) (ih (i + 1) _ _ (by omega) (frE_tr hf8i (frE_tr hf7 (adI_fr ht))) (psV_ad ht hs7 _) (noF_tr hno8 (noF_tr hno7 ⟨by rw [adI_17 ht], by rw [adI_17 ht]⟩)))
      refine wv_iload_n dX4_readEither_8 rfl ?_
      refine wv_bipush (v := 30) dX4_readEither_9 (by decide) ?_
      refine wv_icmp_ge (tgt := 56) dX4_readEither_11 (by decide) (fun h11 => absurd h11 (nI_ge (b := 30) (by omega) (by omega))) (fun h11 => ?_)
      refine wv_iload_n dX4_readEither_14 rfl ?_
      refine wv_if_eq (tgt := 56) dX4_readEither_15 (by decide) (fun h15 => absurd h15 (by decide)) (fun h15 => ?_)
      refine wv_aload_n dX4_readEither_18 rfl ?_
      refine wv_ldcS (i := 21) rfl (by decide) rfl dX4_readEither_19 ?_
      refine wv_v1e oX4_isWord kX4_56 dX4_readEither_21 (by omega) (by first | assumption | rfl) ⟨rfl, by decide⟩ (Nat.le_of_ble_eq_true rfl) (Nat.le_of_ble_eq_true rfl) (cD_isWord hR T s9.1 hTJ hs9.1 hs9.2.1 21 (by decide)) ?_
      refine wv_if_eq (tgt := 56) dX4_readEither_24 (by decide) (fun h24 => ?_) (fun h24 => ?_)
      · rw [if10] at h24
        have ht0 : ¬ (fun k => isWd T k 21) s9.1 = true := h24
        rw [if_neg ht0]
        refine wv_iload_n dX4_readEither_56 rfl ?_
        refine wv_zret rfl rfl dX4_readEither_57 ?_
        exact ⟨rfl, rfl, rfl, hf, rfl, hs9, hno⟩
      · rw [if10, Decidable.not_not] at h24
        have ht1 : (fun k => isWd T k 21) s9.1 = true := h24
        rw [if_pos ht1]
        exact wv_le (by simp [wr_leq, wr_s1, wr_s2, wr_wide]) (go ht1)
  show wr_P _ _ _ _ _ _ _ _ (pQ L R t I (pb (X s) (pLp T (fun k => isWd T k 21) (fun _ => 20002) X 30)))
  refine wv_pad 2 ?_
  show wr_V l (d + 1) mX4_readEither 0 [some (.ref 17), some (.int (nI dp)), none, none] [] SH I L R 0 0 _
  refine wv_aload_n dX4_readEither_0 rfl ?_
  refine wv_iload_n dX4_readEither_1 rfl ?_
  refine wv_v1 oX4_readBoth kX4_154 dX4_readEither_2 (by omega) (by first | assumption | rfl) ⟨rfl, by decide⟩ (Nat.le_of_ble_eq_true rfl) (Nat.le_of_ble_eq_true rfl) (hX I s hT hs) (fun v9 s9 J9 L9 R9 h9 => ?_)
  cases hx : X s with
  | inr e =>
    rw [hx] at h9
    obtain ⟨rfl, rfl, rfl, hf9, rfl, q1, q2, q3⟩ := h9
    refine wv_istore_k (i := 2) dX4_readEither_5 rfl (by decide) ?_
    refine wv_iconst (v := nI 0) dX4_readEither_6 rfl ?_
    refine wv_istore_k (i := 3) dX4_readEither_7 rfl (by decide) ?_
    exact wv_le (by simp [wr_leq, wr_s1, wr_s2, wr_wide]) (lf 0 _ e (by omega) hf9 q1 q2 q3)
  | inl s' =>
    rw [hx] at h9
    obtain ⟨rfl, rfl, rfl, hf9, rfl, hs9, hno9⟩ := h9
    refine wv_istore_k (i := 2) dX4_readEither_5 rfl (by decide) ?_
    refine wv_iconst (v := nI 0) dX4_readEither_6 rfl ?_
    refine wv_istore_k (i := 3) dX4_readEither_7 rfl (by decide) ?_
    exact wv_le (by simp [wr_leq, wr_s1, wr_s2, wr_wide]) (lp 30 0 _ s' (by omega) hf9 hs9 hno9)

