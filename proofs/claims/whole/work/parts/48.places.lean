/-! places, laws, whole texts -/
set_option maxHeartbeats 4000000 in
set_option maxRecDepth 100000 in
theorem cD_pl0 {l : Launch} {R : wr_TR} {T : TP} {t : Nat} (hR : wr_RC R) (ht : t = 3 ∨ t = 10) (hin : R 17 1 = t + 1) (I : wr_TI) (L : wr_TL) (s : XS) (hT : tpV I T) (hs : lsV I L t s) (hw : isWd T s.1 1 = true) (r : XR) (hr : lPlaces T 0 s = r) : wr_P l 6 mX4_readPlaces [.ref 17] SH I L R (lQ R t I L r) := by
  have hg := isG_of hR ht
  obtain ⟨y0, g0, g1, g2, g3, g4, g5, g6, p0, p1, p2, p3, p4, p5⟩ := id hg
  unfold lPlaces at hr
  have hn6 := hs.2.2.1.2.1
  have hn40 := hs.2.2.1.2.2.1
  refine wv_pad 5 ?_
  show wr_V l 6 mX4_readPlaces 0 [some (.ref 17), none, none, none, none, none] [] SH I L R 0 0 _
  refine wv_aload_n dX4_readPlaces_0 rfl ?_
  refine wv_ldcS (i := 1) rfl (by decide) rfl dX4_readPlaces_1 ?_
  refine wv_v1e oX4_isWord kX4_56 dX4_readPlaces_3 (by omega) (by first | assumption | rfl) ⟨rfl, by decide⟩ (Nat.le_of_ble_eq_true rfl) (Nat.le_of_ble_eq_true rfl) (cD_isWord hR T s.1 hT hs.1 hs.2.1 _ (by decide)) ?_
  rw [if_pos hw]
  refine wv_istore_k (i := 1) dX4_readPlaces_6 rfl (by decide) ?_
  refine wv_aload_n dX4_readPlaces_7 rfl ?_
  refine wv_ldcS (i := 2) rfl (by decide) rfl dX4_readPlaces_8 ?_
  refine wv_v1e oX4_isWord kX4_56 dX4_readPlaces_10 (by omega) (by first | assumption | rfl) ⟨rfl, by decide⟩ (Nat.le_of_ble_eq_true rfl) (Nat.le_of_ble_eq_true rfl) (cD_isWord hR T s.1 hT hs.1 hs.2.1 _ (by decide)) ?_
  refine wv_istore_k (i := 2) dX4_readPlaces_13 rfl (by decide) ?_
  refine wv_aload_n dX4_readPlaces_14 rfl ?_
  refine wv_iconst (v := 1) dX4_readPlaces_15 (by decide) ?_
  refine wv_putI fX4_32 dX4_readPlaces_16 rfl rfl rfl rfl (by first | assumption | rfl) ?_
  obtain ⟨hV1, hfa1, hnoa1⟩ := lsV_f3 ht hs
  have hf1 := frN_tr frN_rf hfa1
  have hno1 := noF_tr ⟨rfl, rfl⟩ hnoa1
  have hT1 := frN_T ht hf1 hT
  generalize hg1 : ((s.1, s.2.1, s.2.2.1, s.2.2.2.1, true, s.2.2.2.2.2) : XS) = s1 at hr hV1
  refine wv_aload_n dX4_readPlaces_19 rfl ?_
  refine wv_v0 oX4_step kX4_44 dX4_readPlaces_20 (by omega) (by first | assumption | rfl) ⟨rfl, by decide⟩ (Nat.le_of_ble_eq_true rfl) (Nat.le_of_ble_eq_true rfl) (dL_step hR ht hT1 hV1) (fun v2 q2 J2 L2 R2 h2 => ?_)
  obtain ⟨rfl, rfl, rfl, rfl, hV2, hfa2, hnoa2⟩ := h2
  have hf2 := frN_tr hf1 hfa2
  have hno2 := noF_tr hno1 hnoa2
  have hT2 := frN_T ht hf2 hT
  generalize hg2 : lnx T s1 = s2 at hr hV2
  have hgN2 : gN s2.2.1 = gN s.2.1 := by rw [← hg2, ← hg1]; rfl
  have hse2 := hV2.2.2.1.1
  rw [hgN2] at hse2
  refine wv_aload_n dX4_readPlaces_23 rfl ?_
  refine wv_iconst (v := 0) dX4_readPlaces_24 (by decide) ?_
  refine wv_aload_n dX4_readPlaces_25 rfl ?_
  refine wv_getR fX4_15 dX4_readPlaces_26 rfl (by first | assumption | rfl) (by first | exact hR _ _ _ rfl | assumption) ?_
  refine wv_getI fX4_92 dX4_readPlaces_29 rfl (by first | assumption | rfl) ?_
  refine wv_iconst (v := 1) dX4_readPlaces_32 (by decide) ?_
  refine wv_isub dX4_readPlaces_33 ?_
  rw [hse2, show nI (gN s.2.1) - 1 = nI (gN s.2.1 - 1) from pk_sub (b := 1) (by omega)]
  refine wv_v2 oX4_takeNumber kX4_85 dX4_readPlaces_34 (by omega) (by first | assumption | rfl) ⟨rfl, by decide⟩ (Nat.le_of_ble_eq_true rfl) (Nat.le_of_ble_eq_true rfl) (dL_num hR ht hT2 hV2 0 (nI (gN s.2.1 - 1))) (fun v3 q3 J3 L3 R3 h3 => ?_)
  obtain ⟨rfl, rfl, rfl, hy3, hn3⟩ := h3
  by_cases hc3 : tkN s2.1 0 (nI (gN s.2.1 - 1)) = true
  · obtain ⟨rfl, rfl⟩ := hy3 hc3
    rw [lNm_t hc3, lbd_l] at hr
    obtain ⟨hki3, hlo3, hhi3⟩ := tkN_i hc3
    have hx3 := hV2.1.2.2.2 hki3
    obtain ⟨a, hal, hax⟩ := nI_of2 (M := nI (gN s.2.1 - 1)) (n := gN s.2.1 - 1) (x := s2.1.2.2.2) (nI_toInt (by omega)) (Int32.not_lt.mpr hlo3) hhi3
    rw [hax] at hr hx3
    refine wv_if_ne (tgt := 42) dX4_readPlaces_37 (by decide) (fun h37 => ?_) (fun h37 => absurd h37 (by decide))
    refine wv_aload_n dX4_readPlaces_42 rfl ?_
    refine wv_getI fX4_89 dX4_readPlaces_43 rfl (by first | assumption | rfl) ?_
    rw [hx3]
    refine wv_istore_k (i := 3) dX4_readPlaces_46 rfl (by decide) ?_
    refine wv_aload_n dX4_readPlaces_47 rfl ?_
    refine wv_v0 oX4_step kX4_44 dX4_readPlaces_48 (by omega) (by first | assumption | rfl) ⟨rfl, by decide⟩ (Nat.le_of_ble_eq_true rfl) (Nat.le_of_ble_eq_true rfl) (dL_step hR ht hT2 hV2) (fun v4 q4 J4 L4 R4 h4 => ?_)
    obtain ⟨rfl, rfl, rfl, rfl, hV4, hfa4, hnoa4⟩ := h4
    have hf4 := frN_tr hf2 hfa4
    have hno4 := noF_tr hno2 hnoa4
    have hT4 := frN_T ht hf4 hT
    generalize hg4 : lnx T s2 = s4 at hr hV4
    have hgN4 : gN s4.2.1 = gN s.2.1 := by rw [← hg4]; exact hgN2
    refine wv_aload_n dX4_readPlaces_51 rfl ?_
    refine wv_ldcS (i := 4) rfl (by decide) rfl dX4_readPlaces_52 ?_
    refine wv_v1 oX4_takeWord kX4_100 dX4_readPlaces_54 (by omega) (by first | assumption | rfl) ⟨rfl, by decide⟩ (Nat.le_of_ble_eq_true rfl) (Nat.le_of_ble_eq_true rfl) (dL_word hR ht hT4 hV4 4 (by decide)) (fun v5 q5 J5 L5 R5 h5 => ?_)
    obtain ⟨rfl, rfl, rfl, hy5, hn5⟩ := h5
    by_cases hc5 : isWd T s4.1 4 = true
    · obtain ⟨rfl, hV5, hfa5, hnoa5⟩ := hy5 hc5
      rw [lW_t hc5, lbd_l] at hr
      have hf5 := frN_tr hf4 hfa5
      have hno5 := noF_tr hno4 hnoa5
      have hT5 := frN_T ht hf5 hT
      generalize hg5 : lnx T s4 = s5 at hr hV5
      refine wv_if_eq (tgt := 77) dX4_readPlaces_57 (by decide) (fun h57 => absurd h57 (by decide)) (fun h57 => ?_)
      refine wv_aload_n dX4_readPlaces_60 rfl ?_
      refine wv_iload_n dX4_readPlaces_61 rfl ?_
      refine wv_aload_n dX4_readPlaces_62 rfl ?_
      refine wv_getR fX4_15 dX4_readPlaces_63 rfl (by first | assumption | rfl) (by first | exact hR _ _ _ rfl | assumption) ?_
      refine wv_getI fX4_92 dX4_readPlaces_66 rfl (by first | assumption | rfl) ?_
      refine wv_iconst (v := 1) dX4_readPlaces_69 (by decide) ?_
      refine wv_isub dX4_readPlaces_70 ?_
      rw [show J5 t 5 = nI (gN s.2.1) from by rw [hV5.2.2.1.1, ← hg5]; exact congrArg nI hgN4, show nI (gN s.2.1) - 1 = nI (gN s.2.1 - 1) from pk_sub (b := 1) (by omega)]
      refine wv_v2 oX4_takeNumber kX4_85 dX4_readPlaces_71 (by omega) (by first | assumption | rfl) ⟨rfl, by decide⟩ (Nat.le_of_ble_eq_true rfl) (Nat.le_of_ble_eq_true rfl) (dL_num hR ht hT5 hV5 (nI a) (nI (gN s.2.1 - 1))) (fun v6 q6 J6 L6 R6 h6 => ?_)
      obtain ⟨rfl, rfl, rfl, hy6, hn6⟩ := h6
      by_cases hc6 : tkN s5.1 (nI a) (nI (gN s.2.1 - 1)) = true
      · obtain ⟨rfl, rfl⟩ := hy6 hc6
        rw [lNm_t hc6, lbd_l] at hr
        obtain ⟨hki6, hlo6, hhi6⟩ := tkN_i hc6
        have hx6 := hV5.1.2.2.2 hki6
        obtain ⟨b, hbl, hbx⟩ := nI_of2 (M := nI (gN s.2.1 - 1)) (n := gN s.2.1 - 1) (x := s5.1.2.2.2) (nI_toInt (by omega)) (fun z => absurd (Int32.lt_of_le_of_lt hlo6 z) (nI_pos (by omega))) hhi6
        have hab : a ≤ b := by rw [hbx] at hlo6; exact (nI_leI (by omega) (by omega)).mp hlo6
        rw [hbx] at hr hx6
        rw [tN_nI (by omega), tN_nI (by omega)] at hr
        have hgN6 : gN s5.2.1 = gN s.2.1 := by rw [← hg5]; exact hgN4
        have hse6 := hV5.2.2.1.1
        rw [hgN6] at hse6
        have esub : nI b - nI a + 1 = nI (b - a + 1) := by rw [pk_sub hab, nI_1]
        have hpt6 : s5.2.2.2.2.1 = true := by rw [← hg5, ← hg4, ← hg2, ← hg1]; rfl
        have hyv : lb (sf (nI (gN s.2.1)) (nI a) (nI (b - a + 1))) = rg a b := by rw [sf_lb (by omega) (by omega) (by omega) (by omega), sfB_rg hab (by omega)]
        refine wv_if_ne (tgt := 79) dX4_readPlaces_74 (by decide) (fun h74 => ?_) (fun h74 => absurd h74 (by decide))
        refine wv_aload_n dX4_readPlaces_79 rfl ?_
        refine wv_getR fX4_15 dX4_readPlaces_80 rfl (by first | assumption | rfl) (by first | exact hR _ _ _ rfl | assumption) ?_
        refine wv_iload_n dX4_readPlaces_83 rfl ?_
        refine wv_aload_n dX4_readPlaces_84 rfl ?_
        refine wv_getI fX4_89 dX4_readPlaces_85 rfl (by first | assumption | rfl) ?_
        refine wv_iload_n dX4_readPlaces_88 rfl ?_
        refine wv_isub dX4_readPlaces_89 ?_
        refine wv_iconst (v := 1) dX4_readPlaces_90 (by decide) ?_
        refine wv_iadd dX4_readPlaces_91 ?_
        rw [hx6, esub]
        refine wv_v2e oX5_seatsFrom kX4_103 dX4_readPlaces_92 (by omega) (by first | assumption | rfl) ⟨rfl, by decide⟩ (Nat.le_of_ble_eq_true rfl) (Nat.le_of_ble_eq_true rfl) (cR_from t _ _ g0) ?_
        rw [hse6]
        refine wv_lstore dX4_readPlaces_95 (by decide) ?_
        refine wv_aload_n dX4_readPlaces_97 rfl ?_
        refine wv_v0 oX4_step kX4_44 dX4_readPlaces_98 (by omega) (by first | assumption | rfl) ⟨rfl, by decide⟩ (Nat.le_of_ble_eq_true rfl) (Nat.le_of_ble_eq_true rfl) (dL_step hR ht hT5 hV5) (fun v7 q7 J7 L7 R7 h7 => ?_)
        obtain ⟨rfl, rfl, rfl, rfl, hV7, hfa7, hnoa7⟩ := h7
        have hf7 := frN_tr hf5 hfa7
        have hno7 := noF_tr hno5 hnoa7
        have hT7 := frN_T ht hf7 hT
        obtain ⟨s7, hg7⟩ : ∃ x, lnx T s5 = x := ⟨_, rfl⟩
        rw [hg7] at hV7
        have hgN7 : gN s7.2.1 = gN s.2.1 := by rw [← hg7]; exact hgN6
        have hpt7 : s7.2.2.2.2.1 = true := by rw [← hg7]; exact hpt6
        refine wv_iload_n dX4_readPlaces_101 rfl ?_
        refine wv_if_eq (tgt := 122) dX4_readPlaces_102 (by decide) (fun h102 => absurd h102 (by decide)) (fun h102 => ?_)
        refine wv_aload_n dX4_readPlaces_105 rfl ?_
        refine wv_getR fX4_15 dX4_readPlaces_106 rfl (by first | assumption | rfl) (by first | exact hR _ _ _ rfl | assumption) ?_
        refine wv_dup dX4_readPlaces_109 rfl ?_
        refine wv_getL fX4_107 dX4_readPlaces_110 rfl (by first | assumption | rfl) ?_
        refine wv_lload dX4_readPlaces_113 rfl ?_
        refine wv_lor dX4_readPlaces_115 ?_
        refine wv_putL fX4_107 dX4_readPlaces_116 rfl rfl rfl rfl (by first | assumption | rfl) ?_
        obtain ⟨hV8, hfa8⟩ := lsV_pl ht hV7 0 7 a b _ hyv (by simp) hab (by rw [hgN7]; omega) hpt7
        have hf8 := frN_tr hf7 hfa8
        have hT8 := frN_T ht hf8 hT
        obtain ⟨s8, hg8⟩ : ∃ x : XS, (s7.1, sPl 0 a b s7.2.1, s7.2.2) = x := ⟨_, rfl⟩
        rw [hg8] at hV8
        have ehr : lnx T (s5.1, sPl 0 a b s5.2.1, s5.2.2) = s8 := by rw [← hg8, ← hg7]; rfl
        rw [ehr] at hr
        refine wv_goto (tgt := 157) dX4_readPlaces_119 (by decide) ?_
        refine wv_aload_n dX4_readPlaces_157 rfl ?_
        refine wv_bipush (v := 59) dX4_readPlaces_158 (by decide) ?_
        refine wv_v1 oX4_takeSign kX4_94 dX4_readPlaces_160 (by omega) (by first | assumption | rfl) ⟨rfl, by decide⟩ (Nat.le_of_ble_eq_true rfl) (Nat.le_of_ble_eq_true rfl) (dL_sign hR ht hT8 hV8 59) (fun v9 q9 J9 L9 R9 h9 => ?_)
        obtain ⟨rfl, rfl, rfl, hy9, hn9⟩ := h9
        by_cases hc9 : isS T s8.1 59 = true
        · obtain ⟨rfl, hV9, hfa9, hnoa9⟩ := hy9 hc9
          rw [lSg_t hc9] at hr
          subst hr
          refine wv_zret rfl rfl dX4_readPlaces_163 ?_
          exact ⟨rfl, rfl, frN_tr hf8 hfa9, rfl, hV9, noF_tr hno7 hnoa9⟩
        · obtain ⟨rfl, hfa9, hfa⟩ := hn9 hc9
          rw [lSg_f hc9] at hr
          subst hr
          refine wv_zret rfl rfl dX4_readPlaces_163 ?_
          exact ⟨rfl, rfl, frN_tr hf8 hfa9, rfl, hfa⟩
      · obtain ⟨rfl, hfa6, hfa⟩ := hn6 hc6
        rw [lNm_f hc6, lbd_r] at hr
        subst hr
        refine wv_if_ne (tgt := 79) dX4_readPlaces_74 (by decide) (fun h74 => absurd rfl h74) (fun h74 => ?_)
        refine wv_iconst (v := 0) dX4_readPlaces_77 (by decide) ?_
        refine wv_zret rfl rfl dX4_readPlaces_78 ?_
        exact ⟨rfl, rfl, frN_tr hf5 hfa6, rfl, hfa⟩
    · obtain ⟨rfl, hfa5, hfa⟩ := hn5 hc5
      rw [lW_f hc5, lbd_r] at hr
      subst hr
      refine wv_if_eq (tgt := 77) dX4_readPlaces_57 (by decide) (fun h57 => ?_) (fun h57 => absurd rfl h57)
      refine wv_iconst (v := 0) dX4_readPlaces_77 (by decide) ?_
      refine wv_zret rfl rfl dX4_readPlaces_78 ?_
      exact ⟨rfl, rfl, frN_tr hf4 hfa5, rfl, hfa⟩
  · obtain ⟨rfl, hfa3, hfa⟩ := hn3 hc3
    rw [lNm_f hc3, lbd_r] at hr
    subst hr
    refine wv_if_ne (tgt := 42) dX4_readPlaces_37 (by decide) (fun h37 => absurd rfl h37) (fun h37 => ?_)
    refine wv_iconst (v := 0) dX4_readPlaces_40 (by decide) ?_
    refine wv_zret rfl rfl dX4_readPlaces_41 ?_
    exact ⟨rfl, rfl, frN_tr hf2 hfa3, rfl, hfa⟩

set_option maxHeartbeats 4000000 in
set_option maxRecDepth 100000 in
theorem cD_pl1 {l : Launch} {R : wr_TR} {T : TP} {t : Nat} (hR : wr_RC R) (ht : t = 3 ∨ t = 10) (hin : R 17 1 = t + 1) (I : wr_TI) (L : wr_TL) (s : XS) (hT : tpV I T) (hs : lsV I L t s) (hw : ¬ isWd T s.1 1 = true ∧ isWd T s.1 2 = true) (r : XR) (hr : lPlaces T 1 s = r) : wr_P l 6 mX4_readPlaces [.ref 17] SH I L R (lQ R t I L r) := by
  have hg := isG_of hR ht
  obtain ⟨y0, g0, g1, g2, g3, g4, g5, g6, p0, p1, p2, p3, p4, p5⟩ := id hg
  unfold lPlaces at hr
  have hn6 := hs.2.2.1.2.1
  have hn40 := hs.2.2.1.2.2.1
  refine wv_pad 5 ?_
  show wr_V l 6 mX4_readPlaces 0 [some (.ref 17), none, none, none, none, none] [] SH I L R 0 0 _
  refine wv_aload_n dX4_readPlaces_0 rfl ?_
  refine wv_ldcS (i := 1) rfl (by decide) rfl dX4_readPlaces_1 ?_
  refine wv_v1e oX4_isWord kX4_56 dX4_readPlaces_3 (by omega) (by first | assumption | rfl) ⟨rfl, by decide⟩ (Nat.le_of_ble_eq_true rfl) (Nat.le_of_ble_eq_true rfl) (cD_isWord hR T s.1 hT hs.1 hs.2.1 _ (by decide)) ?_
  rw [if_neg hw.1]
  refine wv_istore_k (i := 1) dX4_readPlaces_6 rfl (by decide) ?_
  refine wv_aload_n dX4_readPlaces_7 rfl ?_
  refine wv_ldcS (i := 2) rfl (by decide) rfl dX4_readPlaces_8 ?_
  refine wv_v1e oX4_isWord kX4_56 dX4_readPlaces_10 (by omega) (by first | assumption | rfl) ⟨rfl, by decide⟩ (Nat.le_of_ble_eq_true rfl) (Nat.le_of_ble_eq_true rfl) (cD_isWord hR T s.1 hT hs.1 hs.2.1 _ (by decide)) ?_
  rw [if_pos hw.2]
  refine wv_istore_k (i := 2) dX4_readPlaces_13 rfl (by decide) ?_
  refine wv_aload_n dX4_readPlaces_14 rfl ?_
  refine wv_iconst (v := 1) dX4_readPlaces_15 (by decide) ?_
  refine wv_putI fX4_32 dX4_readPlaces_16 rfl rfl rfl rfl (by first | assumption | rfl) ?_
  obtain ⟨hV1, hfa1, hnoa1⟩ := lsV_f3 ht hs
  have hf1 := frN_tr frN_rf hfa1
  have hno1 := noF_tr ⟨rfl, rfl⟩ hnoa1
  have hT1 := frN_T ht hf1 hT
  generalize hg1 : ((s.1, s.2.1, s.2.2.1, s.2.2.2.1, true, s.2.2.2.2.2) : XS) = s1 at hr hV1
  refine wv_aload_n dX4_readPlaces_19 rfl ?_
  refine wv_v0 oX4_step kX4_44 dX4_readPlaces_20 (by omega) (by first | assumption | rfl) ⟨rfl, by decide⟩ (Nat.le_of_ble_eq_true rfl) (Nat.le_of_ble_eq_true rfl) (dL_step hR ht hT1 hV1) (fun v2 q2 J2 L2 R2 h2 => ?_)
  obtain ⟨rfl, rfl, rfl, rfl, hV2, hfa2, hnoa2⟩ := h2
  have hf2 := frN_tr hf1 hfa2
  have hno2 := noF_tr hno1 hnoa2
  have hT2 := frN_T ht hf2 hT
  generalize hg2 : lnx T s1 = s2 at hr hV2
  have hgN2 : gN s2.2.1 = gN s.2.1 := by rw [← hg2, ← hg1]; rfl
  have hse2 := hV2.2.2.1.1
  rw [hgN2] at hse2
  refine wv_aload_n dX4_readPlaces_23 rfl ?_
  refine wv_iconst (v := 0) dX4_readPlaces_24 (by decide) ?_
  refine wv_aload_n dX4_readPlaces_25 rfl ?_
  refine wv_getR fX4_15 dX4_readPlaces_26 rfl (by first | assumption | rfl) (by first | exact hR _ _ _ rfl | assumption) ?_
  refine wv_getI fX4_92 dX4_readPlaces_29 rfl (by first | assumption | rfl) ?_
  refine wv_iconst (v := 1) dX4_readPlaces_32 (by decide) ?_
  refine wv_isub dX4_readPlaces_33 ?_
  rw [hse2, show nI (gN s.2.1) - 1 = nI (gN s.2.1 - 1) from pk_sub (b := 1) (by omega)]
  refine wv_v2 oX4_takeNumber kX4_85 dX4_readPlaces_34 (by omega) (by first | assumption | rfl) ⟨rfl, by decide⟩ (Nat.le_of_ble_eq_true rfl) (Nat.le_of_ble_eq_true rfl) (dL_num hR ht hT2 hV2 0 (nI (gN s.2.1 - 1))) (fun v3 q3 J3 L3 R3 h3 => ?_)
  obtain ⟨rfl, rfl, rfl, hy3, hn3⟩ := h3
  by_cases hc3 : tkN s2.1 0 (nI (gN s.2.1 - 1)) = true
  · obtain ⟨rfl, rfl⟩ := hy3 hc3
    rw [lNm_t hc3, lbd_l] at hr
    obtain ⟨hki3, hlo3, hhi3⟩ := tkN_i hc3
    have hx3 := hV2.1.2.2.2 hki3
    obtain ⟨a, hal, hax⟩ := nI_of2 (M := nI (gN s.2.1 - 1)) (n := gN s.2.1 - 1) (x := s2.1.2.2.2) (nI_toInt (by omega)) (Int32.not_lt.mpr hlo3) hhi3
    rw [hax] at hr hx3
    refine wv_if_ne (tgt := 42) dX4_readPlaces_37 (by decide) (fun h37 => ?_) (fun h37 => absurd h37 (by decide))
    refine wv_aload_n dX4_readPlaces_42 rfl ?_
    refine wv_getI fX4_89 dX4_readPlaces_43 rfl (by first | assumption | rfl) ?_
    rw [hx3]
    refine wv_istore_k (i := 3) dX4_readPlaces_46 rfl (by decide) ?_
    refine wv_aload_n dX4_readPlaces_47 rfl ?_
    refine wv_v0 oX4_step kX4_44 dX4_readPlaces_48 (by omega) (by first | assumption | rfl) ⟨rfl, by decide⟩ (Nat.le_of_ble_eq_true rfl) (Nat.le_of_ble_eq_true rfl) (dL_step hR ht hT2 hV2) (fun v4 q4 J4 L4 R4 h4 => ?_)
    obtain ⟨rfl, rfl, rfl, rfl, hV4, hfa4, hnoa4⟩ := h4
    have hf4 := frN_tr hf2 hfa4
    have hno4 := noF_tr hno2 hnoa4
    have hT4 := frN_T ht hf4 hT
    generalize hg4 : lnx T s2 = s4 at hr hV4
    have hgN4 : gN s4.2.1 = gN s.2.1 := by rw [← hg4]; exact hgN2
    refine wv_aload_n dX4_readPlaces_51 rfl ?_
    refine wv_ldcS (i := 4) rfl (by decide) rfl dX4_readPlaces_52 ?_
    refine wv_v1 oX4_takeWord kX4_100 dX4_readPlaces_54 (by omega) (by first | assumption | rfl) ⟨rfl, by decide⟩ (Nat.le_of_ble_eq_true rfl) (Nat.le_of_ble_eq_true rfl) (dL_word hR ht hT4 hV4 4 (by decide)) (fun v5 q5 J5 L5 R5 h5 => ?_)
    obtain ⟨rfl, rfl, rfl, hy5, hn5⟩ := h5
    by_cases hc5 : isWd T s4.1 4 = true
    · obtain ⟨rfl, hV5, hfa5, hnoa5⟩ := hy5 hc5
      rw [lW_t hc5, lbd_l] at hr
      have hf5 := frN_tr hf4 hfa5
      have hno5 := noF_tr hno4 hnoa5
      have hT5 := frN_T ht hf5 hT
      generalize hg5 : lnx T s4 = s5 at hr hV5
      refine wv_if_eq (tgt := 77) dX4_readPlaces_57 (by decide) (fun h57 => absurd h57 (by decide)) (fun h57 => ?_)
      refine wv_aload_n dX4_readPlaces_60 rfl ?_
      refine wv_iload_n dX4_readPlaces_61 rfl ?_
      refine wv_aload_n dX4_readPlaces_62 rfl ?_
      refine wv_getR fX4_15 dX4_readPlaces_63 rfl (by first | assumption | rfl) (by first | exact hR _ _ _ rfl | assumption) ?_
      refine wv_getI fX4_92 dX4_readPlaces_66 rfl (by first | assumption | rfl) ?_
      refine wv_iconst (v := 1) dX4_readPlaces_69 (by decide) ?_
      refine wv_isub dX4_readPlaces_70 ?_
      rw [show J5 t 5 = nI (gN s.2.1) from by rw [hV5.2.2.1.1, ← hg5]; exact congrArg nI hgN4, show nI (gN s.2.1) - 1 = nI (gN s.2.1 - 1) from pk_sub (b := 1) (by omega)]
      refine wv_v2 oX4_takeNumber kX4_85 dX4_readPlaces_71 (by omega) (by first | assumption | rfl) ⟨rfl, by decide⟩ (Nat.le_of_ble_eq_true rfl) (Nat.le_of_ble_eq_true rfl) (dL_num hR ht hT5 hV5 (nI a) (nI (gN s.2.1 - 1))) (fun v6 q6 J6 L6 R6 h6 => ?_)
      obtain ⟨rfl, rfl, rfl, hy6, hn6⟩ := h6
      by_cases hc6 : tkN s5.1 (nI a) (nI (gN s.2.1 - 1)) = true
      · obtain ⟨rfl, rfl⟩ := hy6 hc6
        rw [lNm_t hc6, lbd_l] at hr
        obtain ⟨hki6, hlo6, hhi6⟩ := tkN_i hc6
        have hx6 := hV5.1.2.2.2 hki6
        obtain ⟨b, hbl, hbx⟩ := nI_of2 (M := nI (gN s.2.1 - 1)) (n := gN s.2.1 - 1) (x := s5.1.2.2.2) (nI_toInt (by omega)) (fun z => absurd (Int32.lt_of_le_of_lt hlo6 z) (nI_pos (by omega))) hhi6
        have hab : a ≤ b := by rw [hbx] at hlo6; exact (nI_leI (by omega) (by omega)).mp hlo6
        rw [hbx] at hr hx6
        rw [tN_nI (by omega), tN_nI (by omega)] at hr
        have hgN6 : gN s5.2.1 = gN s.2.1 := by rw [← hg5]; exact hgN4
        have hse6 := hV5.2.2.1.1
        rw [hgN6] at hse6
        have esub : nI b - nI a + 1 = nI (b - a + 1) := by rw [pk_sub hab, nI_1]
        have hpt6 : s5.2.2.2.2.1 = true := by rw [← hg5, ← hg4, ← hg2, ← hg1]; rfl
        have hyv : lb (sf (nI (gN s.2.1)) (nI a) (nI (b - a + 1))) = rg a b := by rw [sf_lb (by omega) (by omega) (by omega) (by omega), sfB_rg hab (by omega)]
        refine wv_if_ne (tgt := 79) dX4_readPlaces_74 (by decide) (fun h74 => ?_) (fun h74 => absurd h74 (by decide))
        refine wv_aload_n dX4_readPlaces_79 rfl ?_
        refine wv_getR fX4_15 dX4_readPlaces_80 rfl (by first | assumption | rfl) (by first | exact hR _ _ _ rfl | assumption) ?_
        refine wv_iload_n dX4_readPlaces_83 rfl ?_
        refine wv_aload_n dX4_readPlaces_84 rfl ?_
        refine wv_getI fX4_89 dX4_readPlaces_85 rfl (by first | assumption | rfl) ?_
        refine wv_iload_n dX4_readPlaces_88 rfl ?_
        refine wv_isub dX4_readPlaces_89 ?_
        refine wv_iconst (v := 1) dX4_readPlaces_90 (by decide) ?_
        refine wv_iadd dX4_readPlaces_91 ?_
        rw [hx6, esub]
        refine wv_v2e oX5_seatsFrom kX4_103 dX4_readPlaces_92 (by omega) (by first | assumption | rfl) ⟨rfl, by decide⟩ (Nat.le_of_ble_eq_true rfl) (Nat.le_of_ble_eq_true rfl) (cR_from t _ _ g0) ?_
        rw [hse6]
        refine wv_lstore dX4_readPlaces_95 (by decide) ?_
        refine wv_aload_n dX4_readPlaces_97 rfl ?_
        refine wv_v0 oX4_step kX4_44 dX4_readPlaces_98 (by omega) (by first | assumption | rfl) ⟨rfl, by decide⟩ (Nat.le_of_ble_eq_true rfl) (Nat.le_of_ble_eq_true rfl) (dL_step hR ht hT5 hV5) (fun v7 q7 J7 L7 R7 h7 => ?_)
        obtain ⟨rfl, rfl, rfl, rfl, hV7, hfa7, hnoa7⟩ := h7
        have hf7 := frN_tr hf5 hfa7
        have hno7 := noF_tr hno5 hnoa7
        have hT7 := frN_T ht hf7 hT
        obtain ⟨s7, hg7⟩ : ∃ x, lnx T s5 = x := ⟨_, rfl⟩
        rw [hg7] at hV7
        have hgN7 : gN s7.2.1 = gN s.2.1 := by rw [← hg7]; exact hgN6
        have hpt7 : s7.2.2.2.2.1 = true := by rw [← hg7]; exact hpt6
        refine wv_iload_n dX4_readPlaces_101 rfl ?_
        refine wv_if_eq (tgt := 122) dX4_readPlaces_102 (by decide) (fun h102 => ?_) (fun h102 => absurd rfl h102)
        refine wv_iload_n dX4_readPlaces_122 rfl ?_
        refine wv_if_eq (tgt := 143) dX4_readPlaces_123 (by decide) (fun h123 => absurd h123 (by decide)) (fun h123 => ?_)
        refine wv_aload_n dX4_readPlaces_126 rfl ?_
        refine wv_getR fX4_15 dX4_readPlaces_127 rfl (by first | assumption | rfl) (by first | exact hR _ _ _ rfl | assumption) ?_
        refine wv_dup dX4_readPlaces_130 rfl ?_
        refine wv_getL fX4_110 dX4_readPlaces_131 rfl (by first | assumption | rfl) ?_
        refine wv_lload dX4_readPlaces_134 rfl ?_
        refine wv_lor dX4_readPlaces_136 ?_
        refine wv_putL fX4_110 dX4_readPlaces_137 rfl rfl rfl rfl (by first | assumption | rfl) ?_
        obtain ⟨hV8, hfa8⟩ := lsV_pl ht hV7 1 6 a b _ hyv (by simp) hab (by rw [hgN7]; omega) hpt7
        have hf8 := frN_tr hf7 hfa8
        have hT8 := frN_T ht hf8 hT
        obtain ⟨s8, hg8⟩ : ∃ x : XS, (s7.1, sPl 1 a b s7.2.1, s7.2.2) = x := ⟨_, rfl⟩
        rw [hg8] at hV8
        have ehr : lnx T (s5.1, sPl 1 a b s5.2.1, s5.2.2) = s8 := by rw [← hg8, ← hg7]; rfl
        rw [ehr] at hr
        refine wv_goto (tgt := 157) dX4_readPlaces_140 (by decide) ?_
        refine wv_aload_n dX4_readPlaces_157 rfl ?_
        refine wv_bipush (v := 59) dX4_readPlaces_158 (by decide) ?_
        refine wv_v1 oX4_takeSign kX4_94 dX4_readPlaces_160 (by omega) (by first | assumption | rfl) ⟨rfl, by decide⟩ (Nat.le_of_ble_eq_true rfl) (Nat.le_of_ble_eq_true rfl) (dL_sign hR ht hT8 hV8 59) (fun v9 q9 J9 L9 R9 h9 => ?_)
        obtain ⟨rfl, rfl, rfl, hy9, hn9⟩ := h9
        by_cases hc9 : isS T s8.1 59 = true
        · obtain ⟨rfl, hV9, hfa9, hnoa9⟩ := hy9 hc9
          rw [lSg_t hc9] at hr
          subst hr
          refine wv_zret rfl rfl dX4_readPlaces_163 ?_
          exact ⟨rfl, rfl, frN_tr hf8 hfa9, rfl, hV9, noF_tr hno7 hnoa9⟩
        · obtain ⟨rfl, hfa9, hfa⟩ := hn9 hc9
          rw [lSg_f hc9] at hr
          subst hr
          refine wv_zret rfl rfl dX4_readPlaces_163 ?_
          exact ⟨rfl, rfl, frN_tr hf8 hfa9, rfl, hfa⟩
      · obtain ⟨rfl, hfa6, hfa⟩ := hn6 hc6
        rw [lNm_f hc6, lbd_r] at hr
        subst hr
        refine wv_if_ne (tgt := 79) dX4_readPlaces_74 (by decide) (fun h74 => absurd rfl h74) (fun h74 => ?_)
        refine wv_iconst (v := 0) dX4_readPlaces_77 (by decide) ?_
        refine wv_zret rfl rfl dX4_readPlaces_78 ?_
        exact ⟨rfl, rfl, frN_tr hf5 hfa6, rfl, hfa⟩
    · obtain ⟨rfl, hfa5, hfa⟩ := hn5 hc5
      rw [lW_f hc5, lbd_r] at hr
      subst hr
      refine wv_if_eq (tgt := 77) dX4_readPlaces_57 (by decide) (fun h57 => ?_) (fun h57 => absurd rfl h57)
      refine wv_iconst (v := 0) dX4_readPlaces_77 (by decide) ?_
      refine wv_zret rfl rfl dX4_readPlaces_78 ?_
      exact ⟨rfl, rfl, frN_tr hf4 hfa5, rfl, hfa⟩
  · obtain ⟨rfl, hfa3, hfa⟩ := hn3 hc3
    rw [lNm_f hc3, lbd_r] at hr
    subst hr
    refine wv_if_ne (tgt := 42) dX4_readPlaces_37 (by decide) (fun h37 => absurd rfl h37) (fun h37 => ?_)
    refine wv_iconst (v := 0) dX4_readPlaces_40 (by decide) ?_
    refine wv_zret rfl rfl dX4_readPlaces_41 ?_
    exact ⟨rfl, rfl, frN_tr hf2 hfa3, rfl, hfa⟩

set_option maxHeartbeats 4000000 in
set_option maxRecDepth 100000 in
theorem cD_pl2 {l : Launch} {R : wr_TR} {T : TP} {t : Nat} (hR : wr_RC R) (ht : t = 3 ∨ t = 10) (hin : R 17 1 = t + 1) (I : wr_TI) (L : wr_TL) (s : XS) (hT : tpV I T) (hs : lsV I L t s) (hw : ¬ isWd T s.1 1 = true ∧ ¬ isWd T s.1 2 = true) (r : XR) (hr : lPlaces T 2 s = r) : wr_P l 6 mX4_readPlaces [.ref 17] SH I L R (lQ R t I L r) := by
  have hg := isG_of hR ht
  obtain ⟨y0, g0, g1, g2, g3, g4, g5, g6, p0, p1, p2, p3, p4, p5⟩ := id hg
  unfold lPlaces at hr
  have hn6 := hs.2.2.1.2.1
  have hn40 := hs.2.2.1.2.2.1
  refine wv_pad 5 ?_
  show wr_V l 6 mX4_readPlaces 0 [some (.ref 17), none, none, none, none, none] [] SH I L R 0 0 _
  refine wv_aload_n dX4_readPlaces_0 rfl ?_
  refine wv_ldcS (i := 1) rfl (by decide) rfl dX4_readPlaces_1 ?_
  refine wv_v1e oX4_isWord kX4_56 dX4_readPlaces_3 (by omega) (by first | assumption | rfl) ⟨rfl, by decide⟩ (Nat.le_of_ble_eq_true rfl) (Nat.le_of_ble_eq_true rfl) (cD_isWord hR T s.1 hT hs.1 hs.2.1 _ (by decide)) ?_
  rw [if_neg hw.1]
  refine wv_istore_k (i := 1) dX4_readPlaces_6 rfl (by decide) ?_
  refine wv_aload_n dX4_readPlaces_7 rfl ?_
  refine wv_ldcS (i := 2) rfl (by decide) rfl dX4_readPlaces_8 ?_
  refine wv_v1e oX4_isWord kX4_56 dX4_readPlaces_10 (by omega) (by first | assumption | rfl) ⟨rfl, by decide⟩ (Nat.le_of_ble_eq_true rfl) (Nat.le_of_ble_eq_true rfl) (cD_isWord hR T s.1 hT hs.1 hs.2.1 _ (by decide)) ?_
  rw [if_neg hw.2]
  refine wv_istore_k (i := 2) dX4_readPlaces_13 rfl (by decide) ?_
  refine wv_aload_n dX4_readPlaces_14 rfl ?_
  refine wv_iconst (v := 1) dX4_readPlaces_15 (by decide) ?_
  refine wv_putI fX4_32 dX4_readPlaces_16 rfl rfl rfl rfl (by first | assumption | rfl) ?_
  obtain ⟨hV1, hfa1, hnoa1⟩ := lsV_f3 ht hs
  have hf1 := frN_tr frN_rf hfa1
  have hno1 := noF_tr ⟨rfl, rfl⟩ hnoa1
  have hT1 := frN_T ht hf1 hT
  generalize hg1 : ((s.1, s.2.1, s.2.2.1, s.2.2.2.1, true, s.2.2.2.2.2) : XS) = s1 at hr hV1
  refine wv_aload_n dX4_readPlaces_19 rfl ?_
  refine wv_v0 oX4_step kX4_44 dX4_readPlaces_20 (by omega) (by first | assumption | rfl) ⟨rfl, by decide⟩ (Nat.le_of_ble_eq_true rfl) (Nat.le_of_ble_eq_true rfl) (dL_step hR ht hT1 hV1) (fun v2 q2 J2 L2 R2 h2 => ?_)
  obtain ⟨rfl, rfl, rfl, rfl, hV2, hfa2, hnoa2⟩ := h2
  have hf2 := frN_tr hf1 hfa2
  have hno2 := noF_tr hno1 hnoa2
  have hT2 := frN_T ht hf2 hT
  generalize hg2 : lnx T s1 = s2 at hr hV2
  have hgN2 : gN s2.2.1 = gN s.2.1 := by rw [← hg2, ← hg1]; rfl
  have hse2 := hV2.2.2.1.1
  rw [hgN2] at hse2
  refine wv_aload_n dX4_readPlaces_23 rfl ?_
  refine wv_iconst (v := 0) dX4_readPlaces_24 (by decide) ?_
  refine wv_aload_n dX4_readPlaces_25 rfl ?_
  refine wv_getR fX4_15 dX4_readPlaces_26 rfl (by first | assumption | rfl) (by first | exact hR _ _ _ rfl | assumption) ?_
  refine wv_getI fX4_92 dX4_readPlaces_29 rfl (by first | assumption | rfl) ?_
  refine wv_iconst (v := 1) dX4_readPlaces_32 (by decide) ?_
  refine wv_isub dX4_readPlaces_33 ?_
  rw [hse2, show nI (gN s.2.1) - 1 = nI (gN s.2.1 - 1) from pk_sub (b := 1) (by omega)]
  refine wv_v2 oX4_takeNumber kX4_85 dX4_readPlaces_34 (by omega) (by first | assumption | rfl) ⟨rfl, by decide⟩ (Nat.le_of_ble_eq_true rfl) (Nat.le_of_ble_eq_true rfl) (dL_num hR ht hT2 hV2 0 (nI (gN s.2.1 - 1))) (fun v3 q3 J3 L3 R3 h3 => ?_)
  obtain ⟨rfl, rfl, rfl, hy3, hn3⟩ := h3
  by_cases hc3 : tkN s2.1 0 (nI (gN s.2.1 - 1)) = true
  · obtain ⟨rfl, rfl⟩ := hy3 hc3
    rw [lNm_t hc3, lbd_l] at hr
    obtain ⟨hki3, hlo3, hhi3⟩ := tkN_i hc3
    have hx3 := hV2.1.2.2.2 hki3
    obtain ⟨a, hal, hax⟩ := nI_of2 (M := nI (gN s.2.1 - 1)) (n := gN s.2.1 - 1) (x := s2.1.2.2.2) (nI_toInt (by omega)) (Int32.not_lt.mpr hlo3) hhi3
    rw [hax] at hr hx3
    refine wv_if_ne (tgt := 42) dX4_readPlaces_37 (by decide) (fun h37 => ?_) (fun h37 => absurd h37 (by decide))
    refine wv_aload_n dX4_readPlaces_42 rfl ?_
    refine wv_getI fX4_89 dX4_readPlaces_43 rfl (by first | assumption | rfl) ?_
    rw [hx3]
    refine wv_istore_k (i := 3) dX4_readPlaces_46 rfl (by decide) ?_
    refine wv_aload_n dX4_readPlaces_47 rfl ?_
    refine wv_v0 oX4_step kX4_44 dX4_readPlaces_48 (by omega) (by first | assumption | rfl) ⟨rfl, by decide⟩ (Nat.le_of_ble_eq_true rfl) (Nat.le_of_ble_eq_true rfl) (dL_step hR ht hT2 hV2) (fun v4 q4 J4 L4 R4 h4 => ?_)
    obtain ⟨rfl, rfl, rfl, rfl, hV4, hfa4, hnoa4⟩ := h4
    have hf4 := frN_tr hf2 hfa4
    have hno4 := noF_tr hno2 hnoa4
    have hT4 := frN_T ht hf4 hT
    generalize hg4 : lnx T s2 = s4 at hr hV4
    have hgN4 : gN s4.2.1 = gN s.2.1 := by rw [← hg4]; exact hgN2
    refine wv_aload_n dX4_readPlaces_51 rfl ?_
    refine wv_ldcS (i := 4) rfl (by decide) rfl dX4_readPlaces_52 ?_
    refine wv_v1 oX4_takeWord kX4_100 dX4_readPlaces_54 (by omega) (by first | assumption | rfl) ⟨rfl, by decide⟩ (Nat.le_of_ble_eq_true rfl) (Nat.le_of_ble_eq_true rfl) (dL_word hR ht hT4 hV4 4 (by decide)) (fun v5 q5 J5 L5 R5 h5 => ?_)
    obtain ⟨rfl, rfl, rfl, hy5, hn5⟩ := h5
    by_cases hc5 : isWd T s4.1 4 = true
    · obtain ⟨rfl, hV5, hfa5, hnoa5⟩ := hy5 hc5
      rw [lW_t hc5, lbd_l] at hr
      have hf5 := frN_tr hf4 hfa5
      have hno5 := noF_tr hno4 hnoa5
      have hT5 := frN_T ht hf5 hT
      generalize hg5 : lnx T s4 = s5 at hr hV5
      refine wv_if_eq (tgt := 77) dX4_readPlaces_57 (by decide) (fun h57 => absurd h57 (by decide)) (fun h57 => ?_)
      refine wv_aload_n dX4_readPlaces_60 rfl ?_
      refine wv_iload_n dX4_readPlaces_61 rfl ?_
      refine wv_aload_n dX4_readPlaces_62 rfl ?_
      refine wv_getR fX4_15 dX4_readPlaces_63 rfl (by first | assumption | rfl) (by first | exact hR _ _ _ rfl | assumption) ?_
      refine wv_getI fX4_92 dX4_readPlaces_66 rfl (by first | assumption | rfl) ?_
      refine wv_iconst (v := 1) dX4_readPlaces_69 (by decide) ?_
      refine wv_isub dX4_readPlaces_70 ?_
      rw [show J5 t 5 = nI (gN s.2.1) from by rw [hV5.2.2.1.1, ← hg5]; exact congrArg nI hgN4, show nI (gN s.2.1) - 1 = nI (gN s.2.1 - 1) from pk_sub (b := 1) (by omega)]
      refine wv_v2 oX4_takeNumber kX4_85 dX4_readPlaces_71 (by omega) (by first | assumption | rfl) ⟨rfl, by decide⟩ (Nat.le_of_ble_eq_true rfl) (Nat.le_of_ble_eq_true rfl) (dL_num hR ht hT5 hV5 (nI a) (nI (gN s.2.1 - 1))) (fun v6 q6 J6 L6 R6 h6 => ?_)
      obtain ⟨rfl, rfl, rfl, hy6, hn6⟩ := h6
      by_cases hc6 : tkN s5.1 (nI a) (nI (gN s.2.1 - 1)) = true
      · obtain ⟨rfl, rfl⟩ := hy6 hc6
        rw [lNm_t hc6, lbd_l] at hr
        obtain ⟨hki6, hlo6, hhi6⟩ := tkN_i hc6
        have hx6 := hV5.1.2.2.2 hki6
        obtain ⟨b, hbl, hbx⟩ := nI_of2 (M := nI (gN s.2.1 - 1)) (n := gN s.2.1 - 1) (x := s5.1.2.2.2) (nI_toInt (by omega)) (fun z => absurd (Int32.lt_of_le_of_lt hlo6 z) (nI_pos (by omega))) hhi6
        have hab : a ≤ b := by rw [hbx] at hlo6; exact (nI_leI (by omega) (by omega)).mp hlo6
        rw [hbx] at hr hx6
        rw [tN_nI (by omega), tN_nI (by omega)] at hr
        have hgN6 : gN s5.2.1 = gN s.2.1 := by rw [← hg5]; exact hgN4
        have hse6 := hV5.2.2.1.1
        rw [hgN6] at hse6
        have esub : nI b - nI a + 1 = nI (b - a + 1) := by rw [pk_sub hab, nI_1]
        have hpt6 : s5.2.2.2.2.1 = true := by rw [← hg5, ← hg4, ← hg2, ← hg1]; rfl
        have hyv : lb (sf (nI (gN s.2.1)) (nI a) (nI (b - a + 1))) = rg a b := by rw [sf_lb (by omega) (by omega) (by omega) (by omega), sfB_rg hab (by omega)]
        refine wv_if_ne (tgt := 79) dX4_readPlaces_74 (by decide) (fun h74 => ?_) (fun h74 => absurd h74 (by decide))
        refine wv_aload_n dX4_readPlaces_79 rfl ?_
        refine wv_getR fX4_15 dX4_readPlaces_80 rfl (by first | assumption | rfl) (by first | exact hR _ _ _ rfl | assumption) ?_
        refine wv_iload_n dX4_readPlaces_83 rfl ?_
        refine wv_aload_n dX4_readPlaces_84 rfl ?_
        refine wv_getI fX4_89 dX4_readPlaces_85 rfl (by first | assumption | rfl) ?_
        refine wv_iload_n dX4_readPlaces_88 rfl ?_
        refine wv_isub dX4_readPlaces_89 ?_
        refine wv_iconst (v := 1) dX4_readPlaces_90 (by decide) ?_
        refine wv_iadd dX4_readPlaces_91 ?_
        rw [hx6, esub]
        refine wv_v2e oX5_seatsFrom kX4_103 dX4_readPlaces_92 (by omega) (by first | assumption | rfl) ⟨rfl, by decide⟩ (Nat.le_of_ble_eq_true rfl) (Nat.le_of_ble_eq_true rfl) (cR_from t _ _ g0) ?_
        rw [hse6]
        refine wv_lstore dX4_readPlaces_95 (by decide) ?_
        refine wv_aload_n dX4_readPlaces_97 rfl ?_
        refine wv_v0 oX4_step kX4_44 dX4_readPlaces_98 (by omega) (by first | assumption | rfl) ⟨rfl, by decide⟩ (Nat.le_of_ble_eq_true rfl) (Nat.le_of_ble_eq_true rfl) (dL_step hR ht hT5 hV5) (fun v7 q7 J7 L7 R7 h7 => ?_)
        obtain ⟨rfl, rfl, rfl, rfl, hV7, hfa7, hnoa7⟩ := h7
        have hf7 := frN_tr hf5 hfa7
        have hno7 := noF_tr hno5 hnoa7
        have hT7 := frN_T ht hf7 hT
        obtain ⟨s7, hg7⟩ : ∃ x, lnx T s5 = x := ⟨_, rfl⟩
        rw [hg7] at hV7
        have hgN7 : gN s7.2.1 = gN s.2.1 := by rw [← hg7]; exact hgN6
        have hpt7 : s7.2.2.2.2.1 = true := by rw [← hg7]; exact hpt6
        refine wv_iload_n dX4_readPlaces_101 rfl ?_
        refine wv_if_eq (tgt := 122) dX4_readPlaces_102 (by decide) (fun h102 => ?_) (fun h102 => absurd rfl h102)
        refine wv_iload_n dX4_readPlaces_122 rfl ?_
        refine wv_if_eq (tgt := 143) dX4_readPlaces_123 (by decide) (fun h123 => ?_) (fun h123 => absurd rfl h123)
        refine wv_aload_n dX4_readPlaces_143 rfl ?_
        refine wv_getR fX4_15 dX4_readPlaces_144 rfl (by first | assumption | rfl) (by first | exact hR _ _ _ rfl | assumption) ?_
        refine wv_dup dX4_readPlaces_147 rfl ?_
        refine wv_getL fX4_113 dX4_readPlaces_148 rfl (by first | assumption | rfl) ?_
        refine wv_lload dX4_readPlaces_151 rfl ?_
        refine wv_lor dX4_readPlaces_153 ?_
        refine wv_putL fX4_113 dX4_readPlaces_154 rfl rfl rfl rfl (by first | assumption | rfl) ?_
        obtain ⟨hV8, hfa8⟩ := lsV_pl ht hV7 2 8 a b _ hyv (by simp) hab (by rw [hgN7]; omega) hpt7
        have hf8 := frN_tr hf7 hfa8
        have hT8 := frN_T ht hf8 hT
        obtain ⟨s8, hg8⟩ : ∃ x : XS, (s7.1, sPl 2 a b s7.2.1, s7.2.2) = x := ⟨_, rfl⟩
        rw [hg8] at hV8
        have ehr : lnx T (s5.1, sPl 2 a b s5.2.1, s5.2.2) = s8 := by rw [← hg8, ← hg7]; rfl
        rw [ehr] at hr
        refine wv_aload_n dX4_readPlaces_157 rfl ?_
        refine wv_bipush (v := 59) dX4_readPlaces_158 (by decide) ?_
        refine wv_v1 oX4_takeSign kX4_94 dX4_readPlaces_160 (by omega) (by first | assumption | rfl) ⟨rfl, by decide⟩ (Nat.le_of_ble_eq_true rfl) (Nat.le_of_ble_eq_true rfl) (dL_sign hR ht hT8 hV8 59) (fun v9 q9 J9 L9 R9 h9 => ?_)
        obtain ⟨rfl, rfl, rfl, hy9, hn9⟩ := h9
        by_cases hc9 : isS T s8.1 59 = true
        · obtain ⟨rfl, hV9, hfa9, hnoa9⟩ := hy9 hc9
          rw [lSg_t hc9] at hr
          subst hr
          refine wv_zret rfl rfl dX4_readPlaces_163 ?_
          exact ⟨rfl, rfl, frN_tr hf8 hfa9, rfl, hV9, noF_tr hno7 hnoa9⟩
        · obtain ⟨rfl, hfa9, hfa⟩ := hn9 hc9
          rw [lSg_f hc9] at hr
          subst hr
          refine wv_zret rfl rfl dX4_readPlaces_163 ?_
          exact ⟨rfl, rfl, frN_tr hf8 hfa9, rfl, hfa⟩
      · obtain ⟨rfl, hfa6, hfa⟩ := hn6 hc6
        rw [lNm_f hc6, lbd_r] at hr
        subst hr
        refine wv_if_ne (tgt := 79) dX4_readPlaces_74 (by decide) (fun h74 => absurd rfl h74) (fun h74 => ?_)
        refine wv_iconst (v := 0) dX4_readPlaces_77 (by decide) ?_
        refine wv_zret rfl rfl dX4_readPlaces_78 ?_
        exact ⟨rfl, rfl, frN_tr hf5 hfa6, rfl, hfa⟩
    · obtain ⟨rfl, hfa5, hfa⟩ := hn5 hc5
      rw [lW_f hc5, lbd_r] at hr
      subst hr
      refine wv_if_eq (tgt := 77) dX4_readPlaces_57 (by decide) (fun h57 => ?_) (fun h57 => absurd rfl h57)
      refine wv_iconst (v := 0) dX4_readPlaces_77 (by decide) ?_
      refine wv_zret rfl rfl dX4_readPlaces_78 ?_
      exact ⟨rfl, rfl, frN_tr hf4 hfa5, rfl, hfa⟩
  · obtain ⟨rfl, hfa3, hfa⟩ := hn3 hc3
    rw [lNm_f hc3, lbd_r] at hr
    subst hr
    refine wv_if_ne (tgt := 42) dX4_readPlaces_37 (by decide) (fun h37 => absurd rfl h37) (fun h37 => ?_)
    refine wv_iconst (v := 0) dX4_readPlaces_40 (by decide) ?_
    refine wv_zret rfl rfl dX4_readPlaces_41 ?_
    exact ⟨rfl, rfl, frN_tr hf2 hfa3, rfl, hfa⟩

set_option maxHeartbeats 4000000 in
set_option maxRecDepth 100000 in
theorem cD_law {l : Launch} {R : wr_TR} {T : TP} {t : Nat} (hR : wr_RC R) (ht : t = 3 ∨ t = 10) (hin : R 17 1 = t + 1) (I : wr_TI) (L : wr_TL) (s : XS) (hT : tpV I T) (hs : lsV I L t s) (r : XR) (hr : lLaw T s = r) : wr_P l 61 mX4_readLaw [.ref 17] SH I L R (lQ R t I L r) := by
  have hg := isG_of hR ht
  obtain ⟨y0, g0, g1, g2, g3, g4, g5, g6, p0, p1, p2, p3, p4, p5⟩ := id hg
  unfold lLaw at hr
  have k4 := hs.2.2.2.2.2.2.2.1
  refine wv_pad 0 ?_
  show wr_V l 61 mX4_readLaw 0 [some (.ref 17)] [] SH I L R 0 0 _
  refine wv_aload_n dX4_readLaw_0 rfl ?_
  refine wv_getI fX4_35 dX4_readLaw_1 rfl (by first | assumption | rfl) ?_
  refine wv_if_eq (tgt := 12) dX4_readLaw_4 (by decide) (fun h4 => ?_) (fun h4 => ?_)
  · rw [k4, bI_0] at h4
    rw [if_neg (by simp [h4])] at hr
    refine wv_aload_n dX4_readLaw_12 rfl ?_
    refine wv_iconst (v := 1) dX4_readLaw_13 (by decide) ?_
    refine wv_putI fX4_35 dX4_readLaw_14 rfl rfl rfl rfl (by first | assumption | rfl) ?_
    obtain ⟨hV1, hfa1, hnoa1⟩ := lsV_f4 ht hs
    have hf1 := frN_tr frN_rf hfa1
    have hno1 := noF_tr ⟨rfl, rfl⟩ hnoa1
    have hT1 := frN_T ht hf1 hT
    generalize hg1 : ((s.1, s.2.1, s.2.2.1, s.2.2.2.1, s.2.2.2.2.1, true) : XS) = s1 at hr hV1
    refine wv_aload_n dX4_readLaw_17 rfl ?_
    refine wv_v0 oX4_step kX4_44 dX4_readLaw_18 (by omega) (by first | assumption | rfl) ⟨rfl, by decide⟩ (Nat.le_of_ble_eq_true rfl) (Nat.le_of_ble_eq_true rfl) (dL_step hR ht hT1 hV1) (fun v2 q2 J2 L2 R2 h2 => ?_)
    obtain ⟨rfl, rfl, rfl, rfl, hV2, hfa2, hnoa2⟩ := h2
    have hf2 := frN_tr hf1 hfa2
    have hno2 := noF_tr hno1 hnoa2
    have hT2 := frN_T ht hf2 hT
    generalize hg2 : lnx T s1 = s2 at hr hV2
    refine wv_aload_n dX4_readLaw_21 rfl ?_
    refine wv_ldcS (i := 8) rfl (by decide) rfl dX4_readLaw_22 ?_
    refine wv_v1 oX4_takeWord kX4_100 dX4_readLaw_24 (by omega) (by first | assumption | rfl) ⟨rfl, by decide⟩ (Nat.le_of_ble_eq_true rfl) (Nat.le_of_ble_eq_true rfl) (dL_word hR ht hT2 hV2 8 (by decide)) (fun v3 q3 J3 L3 R3 h3 => ?_)
    obtain ⟨rfl, rfl, rfl, hy3, hn3⟩ := h3
    by_cases hc3 : isWd T s2.1 8 = true
    · obtain ⟨rfl, hV3, hfa3, hnoa3⟩ := hy3 hc3
      rw [lW_t hc3, lbd_l] at hr
      have hf3 := frN_tr hf2 hfa3
      have hno3 := noF_tr hno2 hnoa3
      have hT3 := frN_T ht hf3 hT
      generalize hg3 : lnx T s2 = s3 at hr hV3
      refine wv_if_eq (tgt := 40) dX4_readLaw_27 (by decide) (fun h27 => absurd h27 (by decide)) (fun h27 => ?_)
      refine wv_aload_n dX4_readLaw_30 rfl ?_
      refine wv_iconst (v := 1) dX4_readLaw_31 (by decide) ?_
      refine wv_bipush (v := 9) dX4_readLaw_32 (by decide) ?_
      refine wv_v2 oX4_takeNumber kX4_85 dX4_readLaw_34 (by omega) (by first | assumption | rfl) ⟨rfl, by decide⟩ (Nat.le_of_ble_eq_true rfl) (Nat.le_of_ble_eq_true rfl) (dL_num hR ht hT3 hV3 1 9) (fun v4 q4 J4 L4 R4 h4 => ?_)
      obtain ⟨rfl, rfl, rfl, hy4, hn4⟩ := h4
      by_cases hc4 : tkN s3.1 1 9 = true
      · obtain ⟨rfl, rfl⟩ := hy4 hc4
        rw [lNm_t hc4, lbd_l] at hr
        obtain ⟨hki4, hlo4, hhi4⟩ := tkN_i hc4
        have hx4 := hV3.1.2.2.2 hki4
        refine wv_if_ne (tgt := 42) dX4_readLaw_37 (by decide) (fun h37 => ?_) (fun h37 => absurd h37 (by decide))
        refine wv_aload_n dX4_readLaw_42 rfl ?_
        refine wv_getR fX4_15 dX4_readLaw_43 rfl (by first | assumption | rfl) (by first | exact hR _ _ _ rfl | assumption) ?_
        refine wv_aload_n dX4_readLaw_46 rfl ?_
        refine wv_getI fX4_89 dX4_readLaw_47 rfl (by first | assumption | rfl) ?_
        rw [hx4]
        refine wv_putI fX4_126 dX4_readLaw_50 rfl rfl rfl rfl (by first | assumption | rfl) ?_
        obtain ⟨hV5, hfa5, hnoa5⟩ := lsV_up ht hV3 (x := s3.1.2.2.2) ⟨hlo4, hhi4⟩
        have hf5 := frN_tr hf3 hfa5
        have hno5 := noF_tr hno3 hnoa5
        have hT5 := frN_T ht hf5 hT
        generalize hg5 : ((s3.1, sUp s3.1.2.2.2 s3.2.1, s3.2.2) : XS) = s5 at hr hV5
        refine wv_aload_n dX4_readLaw_53 rfl ?_
        refine wv_v0 oX4_step kX4_44 dX4_readLaw_54 (by omega) (by first | assumption | rfl) ⟨rfl, by decide⟩ (Nat.le_of_ble_eq_true rfl) (Nat.le_of_ble_eq_true rfl) (dL_step hR ht hT5 hV5) (fun v6 q6 J6 L6 R6 h6 => ?_)
        obtain ⟨rfl, rfl, rfl, rfl, hV6, hfa6, hnoa6⟩ := h6
        have hf6 := frN_tr hf5 hfa6
        have hno6 := noF_tr hno5 hnoa6
        have hT6 := frN_T ht hf6 hT
        generalize hg6 : lnx T s5 = s6 at hr hV6
        refine wv_aload_n dX4_readLaw_57 rfl ?_
        refine wv_ldcS (i := 9) rfl (by decide) rfl dX4_readLaw_58 ?_
        refine wv_v1 oX4_takeWord kX4_100 dX4_readLaw_60 (by omega) (by first | assumption | rfl) ⟨rfl, by decide⟩ (Nat.le_of_ble_eq_true rfl) (Nat.le_of_ble_eq_true rfl) (dL_word hR ht hT6 hV6 9 (by decide)) (fun v7 q7 J7 L7 R7 h7 => ?_)
        obtain ⟨rfl, rfl, rfl, hy7, hn7⟩ := h7
        by_cases hc7 : isWd T s6.1 9 = true
        · obtain ⟨rfl, hV7, hfa7, hnoa7⟩ := hy7 hc7
          rw [lW_t hc7, lbd_l] at hr
          have hf7 := frN_tr hf6 hfa7
          have hno7 := noF_tr hno6 hnoa7
          have hT7 := frN_T ht hf7 hT
          generalize hg7 : lnx T s6 = s7 at hr hV7
          refine wv_if_eq (tgt := 76) dX4_readLaw_63 (by decide) (fun h63 => absurd h63 (by decide)) (fun h63 => ?_)
          refine wv_aload_n dX4_readLaw_66 rfl ?_
          refine wv_iconst (v := 0) dX4_readLaw_67 (by decide) ?_
          refine wv_bipush (v := 20) dX4_readLaw_68 (by decide) ?_
          refine wv_v2 oX4_takeNumber kX4_85 dX4_readLaw_70 (by omega) (by first | assumption | rfl) ⟨rfl, by decide⟩ (Nat.le_of_ble_eq_true rfl) (Nat.le_of_ble_eq_true rfl) (dL_num hR ht hT7 hV7 0 20) (fun v8 q8 J8 L8 R8 h8 => ?_)
          obtain ⟨rfl, rfl, rfl, hy8, hn8⟩ := h8
          by_cases hc8 : tkN s7.1 0 20 = true
          · obtain ⟨rfl, rfl⟩ := hy8 hc8
            rw [lNm_t hc8, lbd_l] at hr
            obtain ⟨hki8, hlo8, hhi8⟩ := tkN_i hc8
            have hx8 := hV7.1.2.2.2 hki8
            refine wv_if_ne (tgt := 78) dX4_readLaw_73 (by decide) (fun h73 => ?_) (fun h73 => absurd h73 (by decide))
            refine wv_aload_n dX4_readLaw_78 rfl ?_
            refine wv_getR fX4_15 dX4_readLaw_79 rfl (by first | assumption | rfl) (by first | exact hR _ _ _ rfl | assumption) ?_
            refine wv_aload_n dX4_readLaw_82 rfl ?_
            refine wv_getI fX4_89 dX4_readLaw_83 rfl (by first | assumption | rfl) ?_
            rw [hx8]
            refine wv_putI fX4_130 dX4_readLaw_86 rfl rfl rfl rfl (by first | assumption | rfl) ?_
            obtain ⟨hV9, hfa9, hnoa9⟩ := lsV_re ht hV7 (x := s7.1.2.2.2) ⟨hlo8, hhi8⟩
            have hf9 := frN_tr hf7 hfa9
            have hno9 := noF_tr hno7 hnoa9
            have hT9 := frN_T ht hf9 hT
            generalize hg9 : ((s7.1, sRe s7.1.2.2.2 s7.2.1, s7.2.2) : XS) = s9 at hr hV9
            refine wv_aload_n dX4_readLaw_89 rfl ?_
            refine wv_v0 oX4_step kX4_44 dX4_readLaw_90 (by omega) (by first | assumption | rfl) ⟨rfl, by decide⟩ (Nat.le_of_ble_eq_true rfl) (Nat.le_of_ble_eq_true rfl) (dL_step hR ht hT9 hV9) (fun v10 q10 J10 L10 R10 h10 => ?_)
            obtain ⟨rfl, rfl, rfl, rfl, hV10, hfa10, hnoa10⟩ := h10
            have hf10 := frN_tr hf9 hfa10
            have hno10 := noF_tr hno9 hnoa10
            have hT10 := frN_T ht hf10 hT
            generalize hg10 : lnx T s9 = s10 at hr hV10
            refine wv_aload_n dX4_readLaw_93 rfl ?_
            refine wv_ldcS (i := 10) rfl (by decide) rfl dX4_readLaw_94 ?_
            refine wv_v1 oX4_takeWord kX4_100 dX4_readLaw_96 (by omega) (by first | assumption | rfl) ⟨rfl, by decide⟩ (Nat.le_of_ble_eq_true rfl) (Nat.le_of_ble_eq_true rfl) (dL_word hR ht hT10 hV10 10 (by decide)) (fun v11 q11 J11 L11 R11 h11 => ?_)
            obtain ⟨rfl, rfl, rfl, hy11, hn11⟩ := h11
            by_cases hc11 : isWd T s10.1 10 = true
            · obtain ⟨rfl, hV11, hfa11, hnoa11⟩ := hy11 hc11
              rw [lW_t hc11, lbd_l] at hr
              have hf11 := frN_tr hf10 hfa11
              have hno11 := noF_tr hno10 hnoa11
              have hT11 := frN_T ht hf11 hT
              generalize hg11 : lnx T s10 = s11 at hr hV11
              refine wv_if_eq (tgt := 112) dX4_readLaw_99 (by decide) (fun h99 => absurd h99 (by decide)) (fun h99 => ?_)
              refine wv_aload_n dX4_readLaw_102 rfl ?_
              refine wv_iconst (v := 1) dX4_readLaw_103 (by decide) ?_
              refine wv_bipush (v := 9) dX4_readLaw_104 (by decide) ?_
              refine wv_v2 oX4_takeNumber kX4_85 dX4_readLaw_106 (by omega) (by first | assumption | rfl) ⟨rfl, by decide⟩ (Nat.le_of_ble_eq_true rfl) (Nat.le_of_ble_eq_true rfl) (dL_num hR ht hT11 hV11 1 9) (fun v12 q12 J12 L12 R12 h12 => ?_)
              obtain ⟨rfl, rfl, rfl, hy12, hn12⟩ := h12
              by_cases hc12 : tkN s11.1 1 9 = true
              · obtain ⟨rfl, rfl⟩ := hy12 hc12
                rw [lNm_t hc12, lbd_l] at hr
                obtain ⟨hki12, hlo12, hhi12⟩ := tkN_i hc12
                have hx12 := hV11.1.2.2.2 hki12
                obtain ⟨n9, hn9, hnx⟩ := nI_of2 (M := 9) (n := 9) (x := s11.1.2.2.2) rfl (fun z => by have := hlo12; grind) hhi12
                have hn1 : 1 ≤ n9 := by rw [hnx] at hlo12; exact (nI_leI (a := 1) (by omega) (by omega)).mp hlo12
                have etn : tN s11.1.2.2.2 = n9 := by rw [hnx, tN_nI (by omega)]
                rw [etn] at hr
                refine wv_if_ne (tgt := 114) dX4_readLaw_109 (by decide) (fun h109 => ?_) (fun h109 => absurd h109 (by decide))
                refine wv_aload_n dX4_readLaw_114 rfl ?_
                refine wv_getR fX4_15 dX4_readLaw_115 rfl (by first | assumption | rfl) (by first | exact hR _ _ _ rfl | assumption) ?_
                refine wv_aload_n dX4_readLaw_118 rfl ?_
                refine wv_getI fX4_89 dX4_readLaw_119 rfl (by first | assumption | rfl) ?_
                rw [hx12]
                refine wv_putI fX4_134 dX4_readLaw_122 rfl rfl rfl rfl (by first | assumption | rfl) ?_
                obtain ⟨hV13, hfa13, hnoa13⟩ := lsV_se ht hV11 hnx hn1 hn9
                have hf13 := frN_tr hf11 hfa13
                have hno13 := noF_tr hno11 hnoa13
                have hT13 := frN_T ht hf13 hT
                generalize hg13 : ((s11.1, sSe n9 s11.2.1, s11.2.2) : XS) = s13 at hr hV13
                refine wv_aload_n dX4_readLaw_125 rfl ?_
                refine wv_v0 oX4_step kX4_44 dX4_readLaw_126 (by omega) (by first | assumption | rfl) ⟨rfl, by decide⟩ (Nat.le_of_ble_eq_true rfl) (Nat.le_of_ble_eq_true rfl) (dL_step hR ht hT13 hV13) (fun v14 q14 J14 L14 R14 h14 => ?_)
                obtain ⟨rfl, rfl, rfl, rfl, hV14, hfa14, hnoa14⟩ := h14
                have hf14 := frN_tr hf13 hfa14
                have hno14 := noF_tr hno13 hnoa14
                have hT14 := frN_T ht hf14 hT
                generalize hg14 : lnx T s13 = s14 at hr hV14
                refine wv_aload_n dX4_readLaw_129 rfl ?_
                refine wv_ldcS (i := 11) rfl (by decide) rfl dX4_readLaw_130 ?_
                refine wv_v1 oX4_takeWord kX4_100 dX4_readLaw_132 (by omega) (by first | assumption | rfl) ⟨rfl, by decide⟩ (Nat.le_of_ble_eq_true rfl) (Nat.le_of_ble_eq_true rfl) (dL_word hR ht hT14 hV14 11 (by decide)) (fun v15 q15 J15 L15 R15 h15 => ?_)
                obtain ⟨rfl, rfl, rfl, hy15, hn15⟩ := h15
                by_cases hc15 : isWd T s14.1 11 = true
                · obtain ⟨rfl, hV15, hfa15, hnoa15⟩ := hy15 hc15
                  rw [lW_t hc15, lbd_l] at hr
                  have hf15 := frN_tr hf14 hfa15
                  have hno15 := noF_tr hno14 hnoa15
                  have hT15 := frN_T ht hf15 hT
                  generalize hg15 : lnx T s14 = s15 at hr hV15
                  refine wv_if_eq (tgt := 148) dX4_readLaw_135 (by decide) (fun h135 => absurd h135 (by decide)) (fun h135 => ?_)
                  refine wv_aload_n dX4_readLaw_138 rfl ?_
                  refine wv_iconst (v := 0) dX4_readLaw_139 (by decide) ?_
                  refine wv_bipush (v := 9) dX4_readLaw_140 (by decide) ?_
                  refine wv_v2 oX4_takeNumber kX4_85 dX4_readLaw_142 (by omega) (by first | assumption | rfl) ⟨rfl, by decide⟩ (Nat.le_of_ble_eq_true rfl) (Nat.le_of_ble_eq_true rfl) (dL_num hR ht hT15 hV15 0 9) (fun v16 q16 J16 L16 R16 h16 => ?_)
                  obtain ⟨rfl, rfl, rfl, hy16, hn16⟩ := h16
                  by_cases hc16 : tkN s15.1 0 9 = true
                  · obtain ⟨rfl, rfl⟩ := hy16 hc16
                    rw [lNm_t hc16, lbd_l] at hr
                    obtain ⟨hki16, hlo16, hhi16⟩ := tkN_i hc16
                    have hx16 := hV15.1.2.2.2 hki16
                    refine wv_if_ne (tgt := 150) dX4_readLaw_145 (by decide) (fun h145 => ?_) (fun h145 => absurd h145 (by decide))
                    refine wv_aload_n dX4_readLaw_150 rfl ?_
                    refine wv_getR fX4_15 dX4_readLaw_151 rfl (by first | assumption | rfl) (by first | exact hR _ _ _ rfl | assumption) ?_
                    refine wv_aload_n dX4_readLaw_154 rfl ?_
                    refine wv_getI fX4_89 dX4_readLaw_155 rfl (by first | assumption | rfl) ?_
                    rw [hx16]
                    refine wv_putI fX4_138 dX4_readLaw_158 rfl rfl rfl rfl (by first | assumption | rfl) ?_
                    obtain ⟨hV17, hfa17, hnoa17⟩ := lsV_sh ht hV15 (x := s15.1.2.2.2) ⟨hlo16, hhi16⟩
                    have hf17 := frN_tr hf15 hfa17
                    have hno17 := noF_tr hno15 hnoa17
                    have hT17 := frN_T ht hf17 hT
                    obtain ⟨s17, hg17⟩ : ∃ x : XS, (s15.1, sSh s15.1.2.2.2 s15.2.1, s15.2.2) = x := ⟨_, rfl⟩
                    rw [hg17] at hV17
                    refine wv_aload_n dX4_readLaw_161 rfl ?_
                    refine wv_v0 oX4_step kX4_44 dX4_readLaw_162 (by omega) (by first | assumption | rfl) ⟨rfl, by decide⟩ (Nat.le_of_ble_eq_true rfl) (Nat.le_of_ble_eq_true rfl) (dL_step hR ht hT17 hV17) (fun v18 q18 J18 L18 R18 h18 => ?_)
                    obtain ⟨rfl, rfl, rfl, rfl, hV18, hfa18, hnoa18⟩ := h18
                    have hf18 := frN_tr hf17 hfa18
                    have hno18 := noF_tr hno17 hnoa18
                    have hT18 := frN_T ht hf18 hT
                    obtain ⟨s18, hg18⟩ : ∃ x, lnx T s17 = x := ⟨_, rfl⟩
                    rw [hg18] at hV18
                    refine wv_aload_n dX4_readLaw_165 rfl ?_
                    refine wv_getR fX4_15 dX4_readLaw_166 rfl (by first | assumption | rfl) (by first | exact hR _ _ _ rfl | assumption) ?_
                    refine wv_getR fX4_140 dX4_readLaw_169 rfl (by first | assumption | rfl) (by first | exact hR _ _ _ rfl | assumption) ?_
                    refine wv_v0u oX2_clear kX4_143 dX4_readLaw_172 (by omega) (by first | assumption | rfl) ⟨rfl, by decide⟩ (Nat.le_of_ble_eq_true rfl) (Nat.le_of_ble_eq_true rfl) (cL_clear t hg) ?_
                    obtain ⟨hV19, hfa19, hnoa19⟩ := lsV_cl ht hV18
                    have hf19 := frN_tr hf18 hfa19
                    have hno19 := noF_tr hno18 hnoa19
                    have hT19 := frN_T ht hf19 hT
                    obtain ⟨s19, hg19⟩ : ∃ x : XS, (s18.1, sCo (gC s18.2.1, 0) s18.2.1, 0, s18.2.2.2) = x := ⟨_, rfl⟩
                    rw [hg19] at hV19
                    refine wv_aload_n dX4_readLaw_175 rfl ?_
                    refine wv_ldcS (i := 12) rfl (by decide) rfl dX4_readLaw_176 ?_
                    have ehr : lnx T (s15.1, sCo (gC s15.2.1, 0) (sSh s15.1.2.2.2 s15.2.1), 0, s15.2.2.2) = s19 := by rw [← hg19, ← hg18, ← hg17]; rfl
                    rw [ehr] at hr
                    refine wv_v1 oX4_takeWord kX4_100 dX4_readLaw_178 (by omega) (by first | assumption | rfl) ⟨rfl, by decide⟩ (Nat.le_of_ble_eq_true rfl) (Nat.le_of_ble_eq_true rfl) (dL_word hR ht hT19 hV19 12 (by decide)) (fun v20 q20 J20 L20 R20 h20 => ?_)
                    obtain ⟨rfl, rfl, rfl, hy20, hn20⟩ := h20
                    by_cases hc20 : isWd T s19.1 12 = true
                    · obtain ⟨rfl, hV20, hfa20, hnoa20⟩ := hy20 hc20
                      rw [lW_t hc20, lbd_l] at hr
                      have hf20 := frN_tr hf19 hfa20
                      have hno20 := noF_tr hno19 hnoa20
                      have hT20 := frN_T ht hf20 hT
                      generalize hg20 : lnx T s19 = s20 at hr hV20
                      refine wv_if_eq (tgt := 205) dX4_readLaw_181 (by decide) (fun h181 => absurd h181 (by decide)) (fun h181 => ?_)
                      refine wv_aload_n dX4_readLaw_184 rfl ?_
                      refine wv_iconst (v := nI 0) dX4_readLaw_185 rfl ?_
                      refine wv_v1 oX4_readEither kX4_150 dX4_readLaw_186 (by omega) (by first | assumption | rfl) ⟨rfl, by decide⟩ (Nat.le_of_ble_eq_true rfl) (Nat.le_of_ble_eq_true rfl) (dL_E hR ht hin hT20 hV20) (fun v21 q21 J21 L21 R21 h21 => ?_)
                      obtain ⟨rfl, rfl, rfl, h21⟩ := h21
                      cases hx21 : lE T s20 with
                      | inl s21 =>
                        rw [hx21] at h21
                        rw [hx21, lbd_l] at hr
                        obtain ⟨rfl, hV21, hfa21, hnoa21⟩ := h21
                        have hf21 := frN_tr hf20 hfa21
                        have hno21 := noF_tr hno20 hnoa21
                        have hT21 := frN_T ht hf21 hT
                        refine wv_if_eq (tgt := 205) dX4_readLaw_189 (by decide) (fun h189 => absurd h189 (by decide)) (fun h189 => ?_)
                        refine wv_aload_n dX4_readLaw_192 rfl ?_
                        refine wv_bipush (v := 59) dX4_readLaw_193 (by decide) ?_
                        refine wv_v1 oX4_takeSign kX4_94 dX4_readLaw_195 (by omega) (by first | assumption | rfl) ⟨rfl, by decide⟩ (Nat.le_of_ble_eq_true rfl) (Nat.le_of_ble_eq_true rfl) (dL_sign hR ht hT21 hV21 59) (fun v22 q22 J22 L22 R22 h22 => ?_)
                        obtain ⟨rfl, rfl, rfl, hy22, hn22⟩ := h22
                        by_cases hc22 : isS T s21.1 59 = true
                        · obtain ⟨rfl, hV22, hfa22, hnoa22⟩ := hy22 hc22
                          rw [lSg_t hc22] at hr
                          subst hr
                          refine wv_if_eq (tgt := 205) dX4_readLaw_198 (by decide) (fun h198 => absurd h198 (by decide)) (fun h198 => ?_)
                          refine wv_iconst (v := 1) dX4_readLaw_201 (by decide) ?_
                          refine wv_goto (tgt := 206) dX4_readLaw_202 (by decide) ?_
                          refine wv_zret rfl rfl dX4_readLaw_206 ?_
                          exact ⟨rfl, rfl, frN_tr hf21 hfa22, rfl, hV22, noF_tr hno21 hnoa22⟩
                        · obtain ⟨rfl, hfa22, hfa⟩ := hn22 hc22
                          rw [lSg_f hc22] at hr
                          subst hr
                          refine wv_if_eq (tgt := 205) dX4_readLaw_198 (by decide) (fun h198 => ?_) (fun h198 => absurd rfl h198)
                          refine wv_iconst (v := 0) dX4_readLaw_205 (by decide) ?_
                          refine wv_zret rfl rfl dX4_readLaw_206 ?_
                          exact ⟨rfl, rfl, frN_tr hf21 hfa22, rfl, hfa⟩
                      | inr e =>
                        rw [hx21] at h21
                        rw [hx21, lbd_r] at hr
                        obtain ⟨rfl, hfa21, hfa⟩ := h21
                        subst hr
                        refine wv_if_eq (tgt := 205) dX4_readLaw_189 (by decide) (fun h189 => ?_) (fun h189 => absurd rfl h189)
                        refine wv_iconst (v := 0) dX4_readLaw_205 (by decide) ?_
                        refine wv_zret rfl rfl dX4_readLaw_206 ?_
                        exact ⟨rfl, rfl, frN_tr hf20 hfa21, rfl, hfa⟩
                    · obtain ⟨rfl, hfa20, hfa⟩ := hn20 hc20
                      rw [lW_f hc20, lbd_r] at hr
                      subst hr
                      refine wv_if_eq (tgt := 205) dX4_readLaw_181 (by decide) (fun h181 => ?_) (fun h181 => absurd rfl h181)
                      refine wv_iconst (v := 0) dX4_readLaw_205 (by decide) ?_
                      refine wv_zret rfl rfl dX4_readLaw_206 ?_
                      exact ⟨rfl, rfl, frN_tr hf19 hfa20, rfl, hfa⟩
                  · obtain ⟨rfl, hfa16, hfa⟩ := hn16 hc16
                    rw [lNm_f hc16, lbd_r] at hr
                    subst hr
                    refine wv_if_ne (tgt := 150) dX4_readLaw_145 (by decide) (fun h145 => absurd rfl h145) (fun h145 => ?_)
                    refine wv_iconst (v := 0) dX4_readLaw_148 (by decide) ?_
                    refine wv_zret rfl rfl dX4_readLaw_149 ?_
                    exact ⟨rfl, rfl, frN_tr hf15 hfa16, rfl, hfa⟩
                · obtain ⟨rfl, hfa15, hfa⟩ := hn15 hc15
                  rw [lW_f hc15, lbd_r] at hr
                  subst hr
                  refine wv_if_eq (tgt := 148) dX4_readLaw_135 (by decide) (fun h135 => ?_) (fun h135 => absurd rfl h135)
                  refine wv_iconst (v := 0) dX4_readLaw_148 (by decide) ?_
                  refine wv_zret rfl rfl dX4_readLaw_149 ?_
                  exact ⟨rfl, rfl, frN_tr hf14 hfa15, rfl, hfa⟩
              · obtain ⟨rfl, hfa12, hfa⟩ := hn12 hc12
                rw [lNm_f hc12, lbd_r] at hr
                subst hr
                refine wv_if_ne (tgt := 114) dX4_readLaw_109 (by decide) (fun h109 => absurd rfl h109) (fun h109 => ?_)
                refine wv_iconst (v := 0) dX4_readLaw_112 (by decide) ?_
                refine wv_zret rfl rfl dX4_readLaw_113 ?_
                exact ⟨rfl, rfl, frN_tr hf11 hfa12, rfl, hfa⟩
            · obtain ⟨rfl, hfa11, hfa⟩ := hn11 hc11
              rw [lW_f hc11, lbd_r] at hr
              subst hr
              refine wv_if_eq (tgt := 112) dX4_readLaw_99 (by decide) (fun h99 => ?_) (fun h99 => absurd rfl h99)
              refine wv_iconst (v := 0) dX4_readLaw_112 (by decide) ?_
              refine wv_zret rfl rfl dX4_readLaw_113 ?_
              exact ⟨rfl, rfl, frN_tr hf10 hfa11, rfl, hfa⟩
          · obtain ⟨rfl, hfa8, hfa⟩ := hn8 hc8
            rw [lNm_f hc8, lbd_r] at hr
            subst hr
            refine wv_if_ne (tgt := 78) dX4_readLaw_73 (by decide) (fun h73 => absurd rfl h73) (fun h73 => ?_)
            refine wv_iconst (v := 0) dX4_readLaw_76 (by decide) ?_
            refine wv_zret rfl rfl dX4_readLaw_77 ?_
            exact ⟨rfl, rfl, frN_tr hf7 hfa8, rfl, hfa⟩
        · obtain ⟨rfl, hfa7, hfa⟩ := hn7 hc7
          rw [lW_f hc7, lbd_r] at hr
          subst hr
          refine wv_if_eq (tgt := 76) dX4_readLaw_63 (by decide) (fun h63 => ?_) (fun h63 => absurd rfl h63)
          refine wv_iconst (v := 0) dX4_readLaw_76 (by decide) ?_
          refine wv_zret rfl rfl dX4_readLaw_77 ?_
          exact ⟨rfl, rfl, frN_tr hf6 hfa7, rfl, hfa⟩
      · obtain ⟨rfl, hfa4, hfa⟩ := hn4 hc4
        rw [lNm_f hc4, lbd_r] at hr
        subst hr
        refine wv_if_ne (tgt := 42) dX4_readLaw_37 (by decide) (fun h37 => absurd rfl h37) (fun h37 => ?_)
        refine wv_iconst (v := 0) dX4_readLaw_40 (by decide) ?_
        refine wv_zret rfl rfl dX4_readLaw_41 ?_
        exact ⟨rfl, rfl, frN_tr hf3 hfa4, rfl, hfa⟩
    · obtain ⟨rfl, hfa3, hfa⟩ := hn3 hc3
      rw [lW_f hc3, lbd_r] at hr
      subst hr
      refine wv_if_eq (tgt := 40) dX4_readLaw_27 (by decide) (fun h27 => ?_) (fun h27 => absurd rfl h27)
      refine wv_iconst (v := 0) dX4_readLaw_40 (by decide) ?_
      refine wv_zret rfl rfl dX4_readLaw_41 ?_
      exact ⟨rfl, rfl, frN_tr hf2 hfa3, rfl, hfa⟩
    
    
    
  · rw [k4, bI_0] at h4
    rw [if_pos (by simpa using h4)] at hr
    subst hr
    refine wv_aload_n dX4_readLaw_7 rfl ?_
    refine wv_v0 oX4_refuse kX4_82 dX4_readLaw_8 (by omega) (by first | assumption | rfl) ⟨rfl, by decide⟩ (Nat.le_of_ble_eq_true rfl) (Nat.le_of_ble_eq_true rfl) (dL_ref hR ht hT hs) (fun v0 q0 J0 L0 R0 h0 => ?_)
    obtain ⟨rfl, rfl, rfl, rfl, hf0, hfa⟩ := h0
    refine wv_zret rfl rfl dX4_readLaw_11 ?_
    exact ⟨rfl, rfl, hf0, rfl, hfa⟩

