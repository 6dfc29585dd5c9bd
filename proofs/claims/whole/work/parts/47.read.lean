/-! lines, read -/
theorem dL_E {l : Launch} {I : wr_TI} {L : wr_TL} {R : wr_TR} {T : TP} {t : Nat} {s : XS} (hR : wr_RC R) (ht : t = 3 ∨ t = 10) (hin : R 17 1 = t + 1) (hT : tpV I T) (hs : lsV I L t s) : wr_P l 60 mX4_readEither [.ref 17, .int (nI 0)] SH I L R (fun v s' I' L' R' => s' = SH ∧ L' = L ∧ R' = R ∧ match lE T s with
    | .inl s2 => v = some (.int 1) ∧ lsV I' L t s2 ∧ frN t I L I' L ∧ noF I I'
    | .inr e => v = some (.int 0) ∧ frN t I L I' L ∧ fal I' e) := by
  obtain ⟨h1, h2, h3, h4, h5, h6, h7, h8, h9⟩ := hs
  obtain ⟨r1, r2, r3, r4, r5, r6, r7, r8, r9, r10, r11, r12, r13, r14, r15, r16, r17, r18, r19, r20, r21, r22, r23⟩ := h3
  have hall := (cD_all (l := l) (L := L) (T := T) hR ht hin 7 (by omega)).1
  refine wr_V.imp (hall I (s.1, s.2.1.2.2.2, s.2.2.1) hT ⟨h1, h2, r21, r22, r23, h4, h5⟩) (fun v s' I' L' R' h => ?_)
  obtain ⟨q1, q2, q3, q4, q5⟩ := h
  have e17 : ∀ k, k < 5 → I' 17 k = I 17 k := q4.2.1
  have hfN : frN t I L I' L := ⟨fun b b1 b2 => q4.1 b b1 (by omega) (by omega), fun _ _ => rfl⟩
  refine ⟨q1, q2, q3, ?_⟩
  unfold lE
  cases hx : (pEO T 7).1 (s.1, s.2.1.2.2.2, s.2.2.1) with
  | inl p =>
    rw [hx] at q5
    obtain ⟨rfl, ⟨a1, a2, a3, a4, a5, a6, a7⟩, hno⟩ := q5
    refine ⟨rfl, ⟨a1, a2, ?_, a6, a7, by rw [e17 2 (by omega)]; exact h6, by rw [e17 3 (by omega)]; exact h7, by rw [e17 4 (by omega)]; exact h8, h9⟩, hfN, hno⟩
    unfold rgW
    rw [q4.1 t (by omega) (by omega) (by omega), q4.1 (t + 4) (by omega) (by omega) (by omega), q4.1 (t + 5) (by omega) (by omega) (by omega), q4.1 (t + 6) (by omega) (by omega) (by omega)]
    exact ⟨r1, r2, r3, r4, r5, r6, r7, r8, r9, r10, r11, r12, r13, r14, r15, r16, r17, r18, r19, r20, a3, a4, a5⟩
  | inr e =>
    rw [hx] at q5
    obtain ⟨rfl, a1, a2, -⟩ := q5
    exact ⟨rfl, hfN, a1, a2⟩
set_option maxHeartbeats 4000000 in
set_option maxRecDepth 100000 in
theorem cD_seats {l : Launch} {R : wr_TR} {T : TP} {t : Nat} (hR : wr_RC R) (ht : t = 3 ∨ t = 10) (hin : R 17 1 = t + 1) (I : wr_TI) (L : wr_TL) (s : XS) (hT : tpV I T) (hs : lsV I L t s) (r : XR) (hr : lSeats T s = r) : wr_P l 6 mX4_readSeats [.ref 17] SH I L R (lQ R t I L r) := by
  have hg := isG_of hR ht
  obtain ⟨y0, g0, g1, g2, g3, g4, g5, g6, p0, p1, p2, p3, p4, p5⟩ := id hg
  unfold lSeats at hr
  have k2 := hs.2.2.2.2.2.1
  have k3 := hs.2.2.2.2.2.2.1
  refine wv_pad 0 ?_
  show wr_V l 6 mX4_readSeats 0 [some (.ref 17)] [] SH I L R 0 0 _
  refine wv_aload_n dX4_readSeats_0 rfl ?_
  refine wv_getI fX4_28 dX4_readSeats_1 rfl (by first | assumption | rfl) ?_
  refine wv_if_ne (tgt := 14) dX4_readSeats_4 (by decide) (fun h4 => ?_) (fun h4 => ?_)
  · rw [k2, bI_0] at h4
    rw [if_pos (Or.inl (by simpa using h4))] at hr
    subst hr
    refine wv_aload_n dX4_readSeats_14 rfl ?_
    refine wv_v0 oX4_refuse kX4_82 dX4_readSeats_15 (by omega) (by first | assumption | rfl) ⟨rfl, by decide⟩ (Nat.le_of_ble_eq_true rfl) (Nat.le_of_ble_eq_true rfl) (dL_ref hR ht hT hs) (fun v0 q0 J0 L0 R0 h0 => ?_)
    obtain ⟨rfl, rfl, rfl, rfl, hf0, hfa⟩ := h0
    refine wv_zret rfl rfl dX4_readSeats_18 ?_
    exact ⟨rfl, rfl, hf0, rfl, hfa⟩
  · rw [k2, bI_0] at h4
    refine wv_aload_n dX4_readSeats_7 rfl ?_
    refine wv_getI fX4_32 dX4_readSeats_8 rfl (by first | assumption | rfl) ?_
    refine wv_if_eq (tgt := 19) dX4_readSeats_11 (by decide) (fun h11 => ?_) (fun h11 => ?_)
    · rw [k3, bI_0] at h11
      rw [if_neg (by simp [h4, h11])] at hr
      have hp0 : s.2.2.2.2.1 = false := h11
      refine wv_aload_n dX4_readSeats_19 rfl ?_
      refine wv_iconst (v := 1) dX4_readSeats_20 (by decide) ?_
      refine wv_putI fX4_28 dX4_readSeats_21 rfl rfl rfl rfl (by first | assumption | rfl) ?_
      obtain ⟨hV1, hfa1, hnoa1⟩ := lsV_f2 ht hs
      have hf1 := frN_tr frN_rf hfa1
      have hno1 := noF_tr ⟨rfl, rfl⟩ hnoa1
      have hT1 := frN_T ht hf1 hT
      generalize hg1 : ((s.1, s.2.1, s.2.2.1, true, s.2.2.2.2) : XS) = s1 at hr hV1
      refine wv_aload_n dX4_readSeats_24 rfl ?_
      refine wv_v0 oX4_step kX4_44 dX4_readSeats_25 (by omega) (by first | assumption | rfl) ⟨rfl, by decide⟩ (Nat.le_of_ble_eq_true rfl) (Nat.le_of_ble_eq_true rfl) (dL_step hR ht hT1 hV1) (fun v2 q2 J2 L2 R2 h2 => ?_)
      obtain ⟨rfl, rfl, rfl, rfl, hV2, hfa2, hnoa2⟩ := h2
      have hf2 := frN_tr hf1 hfa2
      have hno2 := noF_tr hno1 hnoa2
      have hT2 := frN_T ht hf2 hT
      generalize hg2 : lnx T s1 = s2 at hr hV2
      refine wv_aload_n dX4_readSeats_28 rfl ?_
      refine wv_bipush (v := 6) dX4_readSeats_29 (by decide) ?_
      refine wv_bipush (v := 40) dX4_readSeats_31 (by decide) ?_
      refine wv_v2 oX4_takeNumber kX4_85 dX4_readSeats_33 (by omega) (by first | assumption | rfl) ⟨rfl, by decide⟩ (Nat.le_of_ble_eq_true rfl) (Nat.le_of_ble_eq_true rfl) (dL_num hR ht hT2 hV2 6 40) (fun v3 q3 J3 L3 R3 h3 => ?_)
      obtain ⟨rfl, rfl, rfl, hy3, hn3⟩ := h3
      by_cases hc3 : tkN s2.1 6 40 = true
      · obtain ⟨rfl, rfl⟩ := hy3 hc3
        rw [lNm_t hc3, lbd_l] at hr
        obtain ⟨hki3, hlo3, hhi3⟩ := tkN_i hc3
        have hx3 := hV2.1.2.2.2 hki3
        obtain ⟨n, hnl, hnx⟩ := nI_of2 (M := 40) (n := 40) (x := s2.1.2.2.2) rfl (fun z => by have := hlo3; grind) hhi3
        have hn6 : 6 ≤ n := by rw [hnx] at hlo3; exact (nI_leI (a := 6) (by omega) (by omega)).mp hlo3
        have etn : tN s2.1.2.2.2 = n := by rw [hnx, tN_nI (by omega)]
        rw [etn] at hr
        have hpl : s2.2.2.2.2.1 = false := by rw [← hg2, ← hg1]; exact hp0
        refine wv_if_ne (tgt := 41) dX4_readSeats_36 (by decide) (fun h36 => ?_) (fun h36 => absurd h36 (by decide))
        refine wv_aload_n dX4_readSeats_41 rfl ?_
        refine wv_getR fX4_15 dX4_readSeats_42 rfl (by first | assumption | rfl) (by first | exact hR _ _ _ rfl | assumption) ?_
        refine wv_aload_n dX4_readSeats_45 rfl ?_
        refine wv_getI fX4_89 dX4_readSeats_46 rfl (by first | assumption | rfl) ?_
        rw [hx3]
        refine wv_putI fX4_92 dX4_readSeats_49 rfl rfl rfl rfl (by first | assumption | rfl) ?_
        obtain ⟨hV4, hfa4, hnoa4⟩ := lsV_N ht hV2 hnx hn6 hnl hpl
        have hf4 := frN_tr hf2 hfa4
        have hno4 := noF_tr hno2 hnoa4
        have hT4 := frN_T ht hf4 hT
        generalize hg4 : ((s2.1, sN n s2.2.1, s2.2.2) : XS) = s4 at hr hV4
        refine wv_aload_n dX4_readSeats_52 rfl ?_
        refine wv_v0 oX4_step kX4_44 dX4_readSeats_53 (by omega) (by first | assumption | rfl) ⟨rfl, by decide⟩ (Nat.le_of_ble_eq_true rfl) (Nat.le_of_ble_eq_true rfl) (dL_step hR ht hT4 hV4) (fun v5 q5 J5 L5 R5 h5 => ?_)
        obtain ⟨rfl, rfl, rfl, rfl, hV5, hfa5, hnoa5⟩ := h5
        have hf5 := frN_tr hf4 hfa5
        have hno5 := noF_tr hno4 hnoa5
        have hT5 := frN_T ht hf5 hT
        generalize hg5 : lnx T s4 = s5 at hr hV5
        refine wv_aload_n dX4_readSeats_56 rfl ?_
        refine wv_bipush (v := 59) dX4_readSeats_57 (by decide) ?_
        refine wv_v1 oX4_takeSign kX4_94 dX4_readSeats_59 (by omega) (by first | assumption | rfl) ⟨rfl, by decide⟩ (Nat.le_of_ble_eq_true rfl) (Nat.le_of_ble_eq_true rfl) (dL_sign hR ht hT5 hV5 59) (fun v6 q6 J6 L6 R6 h6 => ?_)
        obtain ⟨rfl, rfl, rfl, hy6, hn6⟩ := h6
        by_cases hc6 : isS T s5.1 59 = true
        · obtain ⟨rfl, hV6, hfa6, hnoa6⟩ := hy6 hc6
          rw [lSg_t hc6] at hr
          subst hr
          refine wv_zret rfl rfl dX4_readSeats_62 ?_
          exact ⟨rfl, rfl, frN_tr hf5 hfa6, rfl, hV6, noF_tr hno5 hnoa6⟩
        · obtain ⟨rfl, hfa6, hfa⟩ := hn6 hc6
          rw [lSg_f hc6] at hr
          subst hr
          refine wv_zret rfl rfl dX4_readSeats_62 ?_
          exact ⟨rfl, rfl, frN_tr hf5 hfa6, rfl, hfa⟩
      · obtain ⟨rfl, hfa3, hfa⟩ := hn3 hc3
        rw [lNm_f hc3, lbd_r] at hr
        subst hr
        refine wv_if_ne (tgt := 41) dX4_readSeats_36 (by decide) (fun h36 => absurd rfl h36) (fun h36 => ?_)
        refine wv_iconst (v := 0) dX4_readSeats_39 (by decide) ?_
        refine wv_zret rfl rfl dX4_readSeats_40 ?_
        exact ⟨rfl, rfl, frN_tr hf2 hfa3, rfl, hfa⟩
      
      
      
    · rw [k3, bI_0] at h11
      rw [if_pos (Or.inr (by simpa using h11))] at hr
      subst hr
      refine wv_aload_n dX4_readSeats_14 rfl ?_
      refine wv_v0 oX4_refuse kX4_82 dX4_readSeats_15 (by omega) (by first | assumption | rfl) ⟨rfl, by decide⟩ (Nat.le_of_ble_eq_true rfl) (Nat.le_of_ble_eq_true rfl) (dL_ref hR ht hT hs) (fun v0 q0 J0 L0 R0 h0 => ?_)
      obtain ⟨rfl, rfl, rfl, rfl, hf0, hfa⟩ := h0
      refine wv_zret rfl rfl dX4_readSeats_18 ?_
      exact ⟨rfl, rfl, hf0, rfl, hfa⟩

set_option maxHeartbeats 4000000 in
set_option maxRecDepth 100000 in
theorem cD_slack {l : Launch} {R : wr_TR} {T : TP} {t : Nat} (hR : wr_RC R) (ht : t = 3 ∨ t = 10) (hin : R 17 1 = t + 1) (I : wr_TI) (L : wr_TL) (s : XS) (hT : tpV I T) (hs : lsV I L t s) (r : XR) (hr : lSlack T s = r) : wr_P l 6 mX4_readSlack [.ref 17] SH I L R (lQ R t I L r) := by
  have hg := isG_of hR ht
  obtain ⟨y0, g0, g1, g2, g3, g4, g5, g6, p0, p1, p2, p3, p4, p5⟩ := id hg
  unfold lSlack at hr
  have k4 := hs.2.2.1.2.2.2.2.2.2.2.2.2.2.1
  have k6 := hs.2.2.1.2.2.2.2.2.2.2.2.2.2.2.1
  refine wv_pad 2 ?_
  show wr_V l 6 mX4_readSlack 0 [some (.ref 17), none, none] [] SH I L R 0 0 _
  refine wv_aload_n dX4_readSlack_0 rfl ?_
  refine wv_getR fX4_15 dX4_readSlack_1 rfl (by first | assumption | rfl) (by first | exact hR _ _ _ rfl | assumption) ?_
  refine wv_getI fX4_115 dX4_readSlack_4 rfl (by first | assumption | rfl) ?_
  refine wv_bipush (v := 6) dX4_readSlack_7 (by decide) ?_
  refine wv_icmp_lt (tgt := 17) dX4_readSlack_9 (by decide) (fun h9 => ?_) (fun h9 => ?_)
  · rw [k4] at h9
    have h6 : s.2.1.2.1.2.2.2 < 6 := (nI_ltI (b := 6) (by omega) (by omega)).mp h9
    rw [if_neg (by omega)] at hr
    refine wv_aload_n dX4_readSlack_17 rfl ?_
    refine wv_v0 oX4_step kX4_44 dX4_readSlack_18 (by omega) (by first | assumption | rfl) ⟨rfl, by decide⟩ (Nat.le_of_ble_eq_true rfl) (Nat.le_of_ble_eq_true rfl) (dL_step hR ht hT hs) (fun v1 q1 J1 L1 R1 h1 => ?_)
    obtain ⟨rfl, rfl, rfl, rfl, hV1, hfa1, hnoa1⟩ := h1
    have hf1 := frN_tr frN_rf hfa1
    have hno1 := noF_tr ⟨rfl, rfl⟩ hnoa1
    have hT1 := frN_T ht hf1 hT
    generalize hg1 : lnx T s = s1 at hr hV1
    refine wv_aload_n dX4_readSlack_21 rfl ?_
    refine wv_iconst (v := 0) dX4_readSlack_22 (by decide) ?_
    refine wv_sipush (v := 999) dX4_readSlack_23 (by decide) ?_
    refine wv_v2 oX4_takeNumber kX4_85 dX4_readSlack_26 (by omega) (by first | assumption | rfl) ⟨rfl, by decide⟩ (Nat.le_of_ble_eq_true rfl) (Nat.le_of_ble_eq_true rfl) (dL_num hR ht hT1 hV1 0 999) (fun v2 q2 J2 L2 R2 h2 => ?_)
    obtain ⟨rfl, rfl, rfl, hy2, hn2⟩ := h2
    by_cases hc2 : tkN s1.1 0 999 = true
    · obtain ⟨rfl, rfl⟩ := hy2 hc2
      rw [lNm_t hc2, lbd_l] at hr
      obtain ⟨hki2, hlo2, hhi2⟩ := tkN_i hc2
      have hx2 := hV1.1.2.2.2 hki2
      obtain ⟨x1, ex1⟩ : ∃ x, s1.1.2.2.2 = x := ⟨_, rfl⟩
      rw [ex1] at hr hx2
      refine wv_if_ne (tgt := 34) dX4_readSlack_29 (by decide) (fun h29 => ?_) (fun h29 => absurd h29 (by decide))
      refine wv_aload_n dX4_readSlack_34 rfl ?_
      refine wv_getI fX4_89 dX4_readSlack_35 rfl (by first | assumption | rfl) ?_
      rw [hx2]
      refine wv_istore_k (i := 1) dX4_readSlack_38 rfl (by decide) ?_
      refine wv_aload_n dX4_readSlack_39 rfl ?_
      refine wv_v0 oX4_step kX4_44 dX4_readSlack_40 (by omega) (by first | assumption | rfl) ⟨rfl, by decide⟩ (Nat.le_of_ble_eq_true rfl) (Nat.le_of_ble_eq_true rfl) (dL_step hR ht hT1 hV1) (fun v3 q3 J3 L3 R3 h3 => ?_)
      obtain ⟨rfl, rfl, rfl, rfl, hV3, hfa3, hnoa3⟩ := h3
      have hf3 := frN_tr hf1 hfa3
      have hno3 := noF_tr hno1 hnoa3
      have hT3 := frN_T ht hf3 hT
      generalize hg3 : lnx T s1 = s3 at hr hV3
      refine wv_aload_n dX4_readSlack_43 rfl ?_
      refine wv_ldcS (i := 4) rfl (by decide) rfl dX4_readSlack_44 ?_
      refine wv_v1 oX4_takeWord kX4_100 dX4_readSlack_46 (by omega) (by first | assumption | rfl) ⟨rfl, by decide⟩ (Nat.le_of_ble_eq_true rfl) (Nat.le_of_ble_eq_true rfl) (dL_word hR ht hT3 hV3 4 (by decide)) (fun v4 q4 J4 L4 R4 h4 => ?_)
      obtain ⟨rfl, rfl, rfl, hy4, hn4⟩ := h4
      by_cases hc4 : isWd T s3.1 4 = true
      · obtain ⟨rfl, hV4, hfa4, hnoa4⟩ := hy4 hc4
        rw [lW_t hc4, lbd_l] at hr
        have hf4 := frN_tr hf3 hfa4
        have hno4 := noF_tr hno3 hnoa4
        have hT4 := frN_T ht hf4 hT
        generalize hg4 : lnx T s3 = s4 at hr hV4
        refine wv_if_eq (tgt := 63) dX4_readSlack_49 (by decide) (fun h49 => absurd h49 (by decide)) (fun h49 => ?_)
        refine wv_aload_n dX4_readSlack_52 rfl ?_
        refine wv_iload_n dX4_readSlack_53 rfl ?_
        refine wv_sipush (v := 999) dX4_readSlack_54 (by decide) ?_
        refine wv_v2 oX4_takeNumber kX4_85 dX4_readSlack_57 (by omega) (by first | assumption | rfl) ⟨rfl, by decide⟩ (Nat.le_of_ble_eq_true rfl) (Nat.le_of_ble_eq_true rfl) (dL_num hR ht hT4 hV4 x1 999) (fun v5 q5 J5 L5 R5 h5 => ?_)
        obtain ⟨rfl, rfl, rfl, hy5, hn5⟩ := h5
        by_cases hc5 : tkN s4.1 x1 999 = true
        · obtain ⟨rfl, rfl⟩ := hy5 hc5
          rw [lNm_t hc5, lbd_l] at hr
          obtain ⟨hki5, hlo5, hhi5⟩ := tkN_i hc5
          have hx5 := hV4.1.2.2.2 hki5
          obtain ⟨x2, ex2⟩ : ∃ x, s4.1.2.2.2 = x := ⟨_, rfl⟩
          rw [ex2] at hr hx5
          refine wv_if_ne (tgt := 65) dX4_readSlack_60 (by decide) (fun h60 => ?_) (fun h60 => absurd h60 (by decide))
          refine wv_aload_n dX4_readSlack_65 rfl ?_
          refine wv_getI fX4_89 dX4_readSlack_66 rfl (by first | assumption | rfl) ?_
          rw [hx5]
          refine wv_istore_k (i := 2) dX4_readSlack_69 rfl (by decide) ?_
          refine wv_aload_n dX4_readSlack_70 rfl ?_
          refine wv_v0 oX4_step kX4_44 dX4_readSlack_71 (by omega) (by first | assumption | rfl) ⟨rfl, by decide⟩ (Nat.le_of_ble_eq_true rfl) (Nat.le_of_ble_eq_true rfl) (dL_step hR ht hT4 hV4) (fun v6 q6 J6 L6 R6 h6 => ?_)
          obtain ⟨rfl, rfl, rfl, rfl, hV6, hfa6, hnoa6⟩ := h6
          have hf6 := frN_tr hf4 hfa6
          have hno6 := noF_tr hno4 hnoa6
          have hT6 := frN_T ht hf6 hT
          generalize hg6 : lnx T s4 = s6 at hr hV6
          refine wv_aload_n dX4_readSlack_74 rfl ?_
          refine wv_ldcS (i := 6) rfl (by decide) rfl dX4_readSlack_75 ?_
          refine wv_v1 oX4_takeWord kX4_100 dX4_readSlack_77 (by omega) (by first | assumption | rfl) ⟨rfl, by decide⟩ (Nat.le_of_ble_eq_true rfl) (Nat.le_of_ble_eq_true rfl) (dL_word hR ht hT6 hV6 6 (by decide)) (fun v7 q7 J7 L7 R7 h7 => ?_)
          obtain ⟨rfl, rfl, rfl, hy7, hn7⟩ := h7
          by_cases hc7 : isWd T s6.1 6 = true
          · obtain ⟨rfl, hV7, hfa7, hnoa7⟩ := hy7 hc7
            rw [lW_t hc7, lbd_l] at hr
            have hf7 := frN_tr hf6 hfa7
            have hno7 := noF_tr hno6 hnoa7
            have hT7 := frN_T ht hf7 hT
            generalize hg7 : lnx T s6 = s7 at hr hV7
            refine wv_if_eq (tgt := 93) dX4_readSlack_80 (by decide) (fun h80 => absurd h80 (by decide)) (fun h80 => ?_)
            refine wv_aload_n dX4_readSlack_83 rfl ?_
            refine wv_iconst (v := 0) dX4_readSlack_84 (by decide) ?_
            refine wv_bipush (v := 9) dX4_readSlack_85 (by decide) ?_
            refine wv_v2 oX4_takeNumber kX4_85 dX4_readSlack_87 (by omega) (by first | assumption | rfl) ⟨rfl, by decide⟩ (Nat.le_of_ble_eq_true rfl) (Nat.le_of_ble_eq_true rfl) (dL_num hR ht hT7 hV7 0 9) (fun v8 q8 J8 L8 R8 h8 => ?_)
            obtain ⟨rfl, rfl, rfl, hy8, hn8⟩ := h8
            by_cases hc8 : tkN s7.1 0 9 = true
            · obtain ⟨rfl, rfl⟩ := hy8 hc8
              rw [lNm_t hc8, lbd_l] at hr
              obtain ⟨hki8, hlo8, hhi8⟩ := tkN_i hc8
              have hx8 := hV7.1.2.2.2 hki8
              have hsl8 : s7.2.1.2.1.2.2.2 < 6 := by rw [← hg7, ← hg6, ← hg4, ← hg3, ← hg1]; exact h6
              have hcn := hV7.2.2.1.2.2.2.2.2.2.2.2.2.2.1
              refine wv_if_ne (tgt := 95) dX4_readSlack_90 (by decide) (fun h90 => ?_) (fun h90 => absurd h90 (by decide))
              refine wv_aload_n dX4_readSlack_95 rfl ?_
              refine wv_getR fX4_15 dX4_readSlack_96 rfl (by first | assumption | rfl) (by first | exact hR _ _ _ rfl | assumption) ?_
              refine wv_iload_n dX4_readSlack_99 rfl ?_
              refine wv_iload_n dX4_readSlack_100 rfl ?_
              refine wv_aload_n dX4_readSlack_101 rfl ?_
              refine wv_getI fX4_89 dX4_readSlack_102 rfl (by first | assumption | rfl) ?_
              rw [hx8]
              refine wv_v3u oX5_addSlack kX4_120 dX4_readSlack_105 (by omega) (by first | assumption | rfl) ⟨rfl, by decide⟩ (Nat.le_of_ble_eq_true rfl) (Nat.le_of_ble_eq_true rfl) (cR_slack t _ _ _ _ hg hcn hsl8) ?_
              obtain ⟨hV9, hfa9, hnoa9⟩ := lsV_sl ht hV7 x1 x2 s7.1.2.2.2 hsl8
              have hf9 := frN_tr hf7 hfa9
              have hno9 := noF_tr hno7 hnoa9
              have hT9 := frN_T ht hf9 hT
              generalize hg9 : ((s7.1, sSl x1 x2 s7.1.2.2.2 s7.2.1, s7.2.2) : XS) = s9 at hr hV9
              refine wv_aload_n dX4_readSlack_108 rfl ?_
              refine wv_v0 oX4_step kX4_44 dX4_readSlack_109 (by omega) (by first | assumption | rfl) ⟨rfl, by decide⟩ (Nat.le_of_ble_eq_true rfl) (Nat.le_of_ble_eq_true rfl) (dL_step hR ht hT9 hV9) (fun v10 q10 J10 L10 R10 h10 => ?_)
              obtain ⟨rfl, rfl, rfl, rfl, hV10, hfa10, hnoa10⟩ := h10
              have hf10 := frN_tr hf9 hfa10
              have hno10 := noF_tr hno9 hnoa10
              have hT10 := frN_T ht hf10 hT
              generalize hg10 : lnx T s9 = s10 at hr hV10
              refine wv_aload_n dX4_readSlack_112 rfl ?_
              refine wv_bipush (v := 59) dX4_readSlack_113 (by decide) ?_
              refine wv_v1 oX4_takeSign kX4_94 dX4_readSlack_115 (by omega) (by first | assumption | rfl) ⟨rfl, by decide⟩ (Nat.le_of_ble_eq_true rfl) (Nat.le_of_ble_eq_true rfl) (dL_sign hR ht hT10 hV10 59) (fun v11 q11 J11 L11 R11 h11 => ?_)
              obtain ⟨rfl, rfl, rfl, hy11, hn11⟩ := h11
              by_cases hc11 : isS T s10.1 59 = true
              · obtain ⟨rfl, hV11, hfa11, hnoa11⟩ := hy11 hc11
                rw [lSg_t hc11] at hr
                subst hr
                refine wv_zret rfl rfl dX4_readSlack_118 ?_
                exact ⟨rfl, rfl, frN_tr hf10 hfa11, rfl, hV11, noF_tr hno10 hnoa11⟩
              · obtain ⟨rfl, hfa11, hfa⟩ := hn11 hc11
                rw [lSg_f hc11] at hr
                subst hr
                refine wv_zret rfl rfl dX4_readSlack_118 ?_
                exact ⟨rfl, rfl, frN_tr hf10 hfa11, rfl, hfa⟩
            · obtain ⟨rfl, hfa8, hfa⟩ := hn8 hc8
              rw [lNm_f hc8, lbd_r] at hr
              subst hr
              refine wv_if_ne (tgt := 95) dX4_readSlack_90 (by decide) (fun h90 => absurd rfl h90) (fun h90 => ?_)
              refine wv_iconst (v := 0) dX4_readSlack_93 (by decide) ?_
              refine wv_zret rfl rfl dX4_readSlack_94 ?_
              exact ⟨rfl, rfl, frN_tr hf7 hfa8, rfl, hfa⟩
          · obtain ⟨rfl, hfa7, hfa⟩ := hn7 hc7
            rw [lW_f hc7, lbd_r] at hr
            subst hr
            refine wv_if_eq (tgt := 93) dX4_readSlack_80 (by decide) (fun h80 => ?_) (fun h80 => absurd rfl h80)
            refine wv_iconst (v := 0) dX4_readSlack_93 (by decide) ?_
            refine wv_zret rfl rfl dX4_readSlack_94 ?_
            exact ⟨rfl, rfl, frN_tr hf6 hfa7, rfl, hfa⟩
        · obtain ⟨rfl, hfa5, hfa⟩ := hn5 hc5
          rw [lNm_f hc5, lbd_r] at hr
          subst hr
          refine wv_if_ne (tgt := 65) dX4_readSlack_60 (by decide) (fun h60 => absurd rfl h60) (fun h60 => ?_)
          refine wv_iconst (v := 0) dX4_readSlack_63 (by decide) ?_
          refine wv_zret rfl rfl dX4_readSlack_64 ?_
          exact ⟨rfl, rfl, frN_tr hf4 hfa5, rfl, hfa⟩
      · obtain ⟨rfl, hfa4, hfa⟩ := hn4 hc4
        rw [lW_f hc4, lbd_r] at hr
        subst hr
        refine wv_if_eq (tgt := 63) dX4_readSlack_49 (by decide) (fun h49 => ?_) (fun h49 => absurd rfl h49)
        refine wv_iconst (v := 0) dX4_readSlack_63 (by decide) ?_
        refine wv_zret rfl rfl dX4_readSlack_64 ?_
        exact ⟨rfl, rfl, frN_tr hf3 hfa4, rfl, hfa⟩
    · obtain ⟨rfl, hfa2, hfa⟩ := hn2 hc2
      rw [lNm_f hc2, lbd_r] at hr
      subst hr
      refine wv_if_ne (tgt := 34) dX4_readSlack_29 (by decide) (fun h29 => absurd rfl h29) (fun h29 => ?_)
      refine wv_iconst (v := 0) dX4_readSlack_32 (by decide) ?_
      refine wv_zret rfl rfl dX4_readSlack_33 ?_
      exact ⟨rfl, rfl, frN_tr hf1 hfa2, rfl, hfa⟩
    
    
  · rw [k4] at h9
    have h6 : 6 ≤ s.2.1.2.1.2.2.2 := Nat.le_of_not_lt (fun z => h9 (nI_lt (b := 6) z (by omega)))
    rw [if_pos h6] at hr
    subst hr
    refine wv_aload_n dX4_readSlack_12 rfl ?_
    refine wv_v0 oX4_refuse kX4_82 dX4_readSlack_13 (by omega) (by first | assumption | rfl) ⟨rfl, by decide⟩ (Nat.le_of_ble_eq_true rfl) (Nat.le_of_ble_eq_true rfl) (dL_ref hR ht hT hs) (fun v0 q0 J0 L0 R0 h0 => ?_)
    obtain ⟨rfl, rfl, rfl, rfl, hf0, hfa⟩ := h0
    refine wv_zret rfl rfl dX4_readSlack_16 ?_
    exact ⟨rfl, rfl, hf0, rfl, hfa⟩

