/-! one, and all levels -/
set_option maxHeartbeats 4000000 in
set_option maxRecDepth 100000 in
theorem cD_one0 {l : Launch} {L : wr_TL} {R : wr_TR} {T : TP} {t : Nat} (hR : wr_RC R) (ht : t = 3 ∨ t = 10) (hin : R 17 1 = t + 1) (d dp : Nat) (hd : 6 ≤ d) (hdp : 7 ≤ dp) (hdp2 : dp < 100) (S : PS → PR) (hS : CT l L R T t d mX4_readSum dp S) : CT l L R T t (d + 1) mX4_readOne dp (fun s => if isWd T s.1 13 = true then rfR s else pb (S s) (fun s' => if rlH T s'.1 = -1 then .inl s' else pb (S (nxt T s')) (fun s2 => .inl (adC (rlH T s'.1) s2)))) := by
  intro I s hT hs
  have hg := isG_of hR ht
  obtain ⟨y0, g0, g1, g2, g3, g4, g5, g6, p0, p1, p2, p3, p4, p5⟩ := id hg
  obtain ⟨s1, s2, s3, s4, s5, s6, s7⟩ := id hs
  show wr_P _ _ _ _ _ _ _ _ (pQ L R t I (if isWd T s.1 13 = true then rfR s else pb (S s) (fun s' => if rlH T s'.1 = -1 then .inl s' else pb (S (nxt T s')) (fun s2 => .inl (adC (rlH T s'.1) s2)))))
  by_cases hw : isWd T s.1 13 = true
  · rw [if_pos hw]
    refine wv_pad 2 ?_
    show wr_V l (d + 1) mX4_readOne 0 [some (.ref 17), some (.int (nI dp)), none, none] [] SH I L R 0 0 _
    refine wv_aload_n dX4_readOne_0 rfl ?_
    refine wv_ldcS (i := 13) rfl (by decide) rfl dX4_readOne_1 ?_
    refine wv_v1e oX4_isWord kX4_56 dX4_readOne_3 (by omega) (by first | assumption | rfl) ⟨rfl, by decide⟩ (Nat.le_of_ble_eq_true rfl) (Nat.le_of_ble_eq_true rfl) (cD_isWord hR T s.1 hT s1 s2 13 (by decide)) ?_
    refine wv_if_eq (tgt := 47) dX4_readOne_6 (by decide) (fun h6 => absurd h6 (by rw [if_pos hw]; decide)) (fun h6 => ?_)
    refine wv_iload_n dX4_readOne_9 rfl ?_
    refine wv_bipush (v := 7) dX4_readOne_10 (by decide) ?_
    refine wv_icmp_lt (tgt := 20) dX4_readOne_12 (by decide) (fun h12 => absurd h12 (nI_nlt (b := 7) (by omega) (by omega))) (fun h12 => ?_)
    refine wv_aload_n dX4_readOne_15 rfl ?_
    refine wv_v0e oX4_refuse kX4_82 dX4_readOne_16 (by omega) (by first | assumption | rfl) ⟨rfl, by decide⟩ (Nat.le_of_ble_eq_true rfl) (Nat.le_of_ble_eq_true rfl) (cD_refuse hR s.1 s1 s2) ?_
    refine wv_zret rfl rfl dX4_readOne_19 ?_
    exact rf_Q ht frE_rf hs
  · rw [if_neg hw]
    have e6 : (if isWd T s.1 13 = true then (1 : Int32) else 0) = 0 := if_neg hw
    show wr_P _ _ _ _ _ _ _ _ (pQ L R t I (pb (S s) (fun s' => if rlH T s'.1 = -1 then .inl s' else pb (S (nxt T s')) (fun s2 => .inl (adC (rlH T s'.1) s2)))))
    refine wv_pad 2 ?_
    show wr_V l (d + 1) mX4_readOne 0 [some (.ref 17), some (.int (nI dp)), none, none] [] SH I L R 0 0 _
    refine wv_aload_n dX4_readOne_0 rfl ?_
    refine wv_ldcS (i := 13) rfl (by decide) rfl dX4_readOne_1 ?_
    refine wv_v1e oX4_isWord kX4_56 dX4_readOne_3 (by omega) (by first | assumption | rfl) ⟨rfl, by decide⟩ (Nat.le_of_ble_eq_true rfl) (Nat.le_of_ble_eq_true rfl) (cD_isWord hR T s.1 hT s1 s2 13 (by decide)) ?_
    refine wv_if_eq (tgt := 47) dX4_readOne_6 (by decide) (fun h6 => ?_) (fun h6 => absurd e6 h6)
    refine wv_aload_n dX4_readOne_47 rfl ?_
    refine wv_iload_n dX4_readOne_48 rfl ?_
    refine wv_v1 oX4_readSum kX4_170 dX4_readOne_49 (by omega) (by first | assumption | rfl) ⟨rfl, by decide⟩ (Nat.le_of_ble_eq_true rfl) (Nat.le_of_ble_eq_true rfl) (hS I s hT hs) (fun v9 s9 J9 L9 R9 h9 => ?_)
    cases hx : S s with
    | inr e =>
      rw [hx] at h9
      obtain ⟨rfl, rfl, rfl, hf9, rfl, h9⟩ := h9
      refine wv_if_ne (tgt := 57) dX4_readOne_52 (by decide) (fun h52 => absurd rfl h52) (fun h52 => ?_)
      refine wv_iconst (v := 0) dX4_readOne_55 (by decide) ?_
      refine wv_zret rfl rfl dX4_readOne_56 ?_
      exact ⟨rfl, rfl, rfl, hf9, rfl, h9⟩
    | inl s' =>
      rw [hx] at h9
      obtain ⟨rfl, rfl, rfl, hf9, rfl, hs9, hno9⟩ := h9
      have hT9 := frE_T ht hf9 hT
      show wr_V _ _ _ _ _ _ _ _ _ _ _ _ (pQ _ _ t I (if rlH T s'.1 = -1 then .inl s' else pb (S (nxt T s')) (fun s2 => .inl (adC (rlH T s'.1) s2))))
      refine wv_if_ne (tgt := 57) dX4_readOne_52 (by decide) (fun h52 => ?_) (fun h52 => absurd h52 (by decide))
      refine wv_aload_n dX4_readOne_57 rfl ?_
      refine wv_v0e oX4_relationHere kX4_173 dX4_readOne_58 (by omega) (by first | assumption | rfl) ⟨rfl, by decide⟩ (Nat.le_of_ble_eq_true rfl) (Nat.le_of_ble_eq_true rfl) (cD_rel hR T s'.1 hT9 hs9.1 hs9.2.1) ?_
      refine wv_istore_k (i := 2) dX4_readOne_61 rfl (by decide) ?_
      refine wv_iload_n dX4_readOne_62 rfl ?_
      refine wv_iconst (v := (-1)) dX4_readOne_63 (by decide) ?_
      refine wv_icmp_ne (tgt := 69) dX4_readOne_64 (by decide) (fun h64 => ?_) (fun h64 => ?_)
      · rw [if_neg h64]
        refine wv_aload_n dX4_readOne_69 rfl ?_
        refine wv_v0 oX4_step kX4_44 dX4_readOne_70 (by omega) (by first | assumption | rfl) ⟨rfl, by decide⟩ (Nat.le_of_ble_eq_true rfl) (Nat.le_of_ble_eq_true rfl) (cD_step hR T s'.1.2.2.1 hT9 hs9.2.1.2.2 hs9.1.2.2.1) (fun v8 s8 J8 L8 R8 h8 => ?_)
        obtain ⟨rfl, rfl, rfl, rfl, hk8, hf8⟩ := h8
        have hs8 := psV_nx ht hT.2.1 hs9 hk8 hf8
        have hf8i := frE_tr hf9 (frE_K ht hf8)
        have hno8 := noF_tr hno9 (noF_K hf8)
        refine wv_aload_n dX4_readOne_73 rfl ?_
        refine wv_iload_n dX4_readOne_74 rfl ?_
        refine wv_v1 oX4_readSum kX4_170 dX4_readOne_75 (by omega) (by first | assumption | rfl) ⟨rfl, by decide⟩ (Nat.le_of_ble_eq_true rfl) (Nat.le_of_ble_eq_true rfl) (hS J8 _ (frE_T ht hf8i hT) hs8) (fun v7 s7 J7 L7 R7 h7 => ?_)
        cases hx2 : S (nxt T s') with
        | inr e =>
          rw [hx2] at h7
          obtain ⟨rfl, rfl, rfl, hf7, rfl, q1, q2, n, hn, hnl⟩ := h7
          refine wv_istore_k (i := 3) dX4_readOne_78 rfl (by decide) ?_
          refine wv_aload_n dX4_readOne_79 rfl ?_
          refine wv_getR fX4_15 dX4_readOne_80 rfl (by first | assumption | rfl) (by first | exact hR _ _ _ rfl | assumption) ?_
          refine wv_getR fX4_140 dX4_readOne_83 rfl (by first | assumption | rfl) (by first | exact hR _ _ _ rfl | assumption) ?_
          refine wv_iload_n dX4_readOne_86 rfl ?_
          refine wv_v1u oX2_add kX4_159 dX4_readOne_87 (by omega) (by first | assumption | rfl) ⟨rfl, by decide⟩ (Nat.le_of_ble_eq_true rfl) (Nat.le_of_ble_eq_true rfl) (cL_addG t n _ hg hnl hn) ?_
          refine wv_iload_n dX4_readOne_90 rfl ?_
          refine wv_zret rfl rfl dX4_readOne_91 ?_
          exact ⟨rfl, rfl, rfl, frE_tr hf8i (frE_tr hf7 (adI_fr ht)), rfl, by rw [adI_17 ht]; exact q1, by rw [adI_17 ht]; exact q2, adI_n hnl hn⟩
        | inl s2 =>
          rw [hx2] at h7
          obtain ⟨rfl, rfl, rfl, hf7, rfl, hs7, hno7⟩ := h7
          refine wv_istore_k (i := 3) dX4_readOne_78 rfl (by decide) ?_
          refine wv_aload_n dX4_readOne_79 rfl ?_
          refine wv_getR fX4_15 dX4_readOne_80 rfl (by first | assumption | rfl) (by first | exact hR _ _ _ rfl | assumption) ?_
          refine wv_getR fX4_140 dX4_readOne_83 rfl (by first | assumption | rfl) (by first | exact hR _ _ _ rfl | assumption) ?_
          refine wv_iload_n dX4_readOne_86 rfl ?_
          refine wv_v1u oX2_add kX4_159 dX4_readOne_87 (by omega) (by first | assumption | rfl) ⟨rfl, by decide⟩ (Nat.le_of_ble_eq_true rfl) (Nat.le_of_ble_eq_true rfl) (cL_addG t s2.2.1.2 _ hg hs7.2.2.2.1 hs7.2.2.2.2.1) ?_
          refine wv_iload_n dX4_readOne_90 rfl ?_
          refine wv_zret rfl rfl dX4_readOne_91 ?_
          exact ⟨rfl, rfl, rfl, frE_tr hf8i (frE_tr hf7 (adI_fr ht)), rfl, psV_ad ht hs7 _, noF_tr hno8 (noF_tr hno7 ⟨by rw [adI_17 ht], by rw [adI_17 ht]⟩)⟩
      · rw [if_pos h64]
        refine wv_iconst (v := 1) dX4_readOne_67 (by decide) ?_
        refine wv_zret rfl rfl dX4_readOne_68 ?_
        exact ⟨rfl, rfl, rfl, hf9, rfl, hs9, hno9⟩

set_option maxHeartbeats 4000000 in
set_option maxRecDepth 100000 in
theorem cD_one {l : Launch} {L : wr_TL} {R : wr_TR} {T : TP} {t : Nat} (hR : wr_RC R) (ht : t = 3 ∨ t = 10) (hin : R 17 1 = t + 1) (d dp : Nat) (hd : 6 ≤ d) (hdp : dp < 7) (O : PS → PR) (hO : CT l L R T t d mX4_readOne (dp + 1) O) (S : PS → PR) (hS : CT l L R T t d mX4_readSum dp S) : CT l L R T t (d + 1) mX4_readOne dp (fun s => if isWd T s.1 13 = true then pNot T O s else pb (S s) (fun s' => if rlH T s'.1 = -1 then .inl s' else pb (S (nxt T s')) (fun s2 => .inl (adC (rlH T s'.1) s2)))) := by
  intro I s hT hs
  have hg := isG_of hR ht
  obtain ⟨y0, g0, g1, g2, g3, g4, g5, g6, p0, p1, p2, p3, p4, p5⟩ := id hg
  obtain ⟨s1, s2, s3, s4, s5, s6, s7⟩ := id hs
  show wr_P _ _ _ _ _ _ _ _ (pQ L R t I (if isWd T s.1 13 = true then pNot T O s else pb (S s) (fun s' => if rlH T s'.1 = -1 then .inl s' else pb (S (nxt T s')) (fun s2 => .inl (adC (rlH T s'.1) s2)))))
  by_cases hw : isWd T s.1 13 = true
  · rw [if_pos hw]
    refine wv_pad 2 ?_
    show wr_V l (d + 1) mX4_readOne 0 [some (.ref 17), some (.int (nI dp)), none, none] [] SH I L R 0 0 _
    refine wv_aload_n dX4_readOne_0 rfl ?_
    refine wv_ldcS (i := 13) rfl (by decide) rfl dX4_readOne_1 ?_
    refine wv_v1e oX4_isWord kX4_56 dX4_readOne_3 (by omega) (by first | assumption | rfl) ⟨rfl, by decide⟩ (Nat.le_of_ble_eq_true rfl) (Nat.le_of_ble_eq_true rfl) (cD_isWord hR T s.1 hT s1 s2 13 (by decide)) ?_
    refine wv_if_eq (tgt := 47) dX4_readOne_6 (by decide) (fun h6 => absurd h6 (by rw [if_pos hw]; decide)) (fun h6 => ?_)
    refine wv_iload_n dX4_readOne_9 rfl ?_
    refine wv_bipush (v := 7) dX4_readOne_10 (by decide) ?_
    refine wv_icmp_lt (tgt := 20) dX4_readOne_12 (by decide) (fun h12 => ?_) (fun h12 => absurd (nI_lt (b := 7) (by omega) (by omega)) h12)
    refine wv_aload_n dX4_readOne_20 rfl ?_
    refine wv_v0 oX4_step kX4_44 dX4_readOne_21 (by omega) (by first | assumption | rfl) ⟨rfl, by decide⟩ (Nat.le_of_ble_eq_true rfl) (Nat.le_of_ble_eq_true rfl) (cD_step hR T s.1.2.2.1 hT s2.2.2 s1.2.2.1) (fun v8 s8 J8 L8 R8 h8 => ?_)
    obtain ⟨rfl, rfl, rfl, rfl, hk8, hf8⟩ := h8
    have hs8 := psV_nx ht hT.2.1 hs hk8 hf8
    have hf8i := frE_K ht hf8
    have hno8 := noF_K hf8
    refine wv_aload_n dX4_readOne_24 rfl ?_
    refine wv_iload_n dX4_readOne_25 rfl ?_
    refine wv_iconst (v := 1) dX4_readOne_26 (by decide) ?_
    refine wv_iadd dX4_readOne_27 ?_
    rw [nI_1]
    refine wv_v1 oX4_readOne kX4_163 dX4_readOne_28 (by omega) (by first | assumption | rfl) ⟨rfl, by decide⟩ (Nat.le_of_ble_eq_true rfl) (Nat.le_of_ble_eq_true rfl) (hO J8 _ (frE_T ht hf8i hT) hs8) (fun v7 s7 J7 L7 R7 h7 => ?_)
    show wr_V _ _ _ _ _ _ _ _ _ _ _ _ (pQ _ _ t I (pNot T O s))
    unfold pNot
    cases hx2 : O (nxt T s) with
    | inr e =>
      rw [hx2] at h7
      obtain ⟨rfl, rfl, rfl, hf7, rfl, q1, q2, n, hn, hnl⟩ := h7
      refine wv_istore_k (i := 2) dX4_readOne_31 rfl (by decide) ?_
      refine wv_aload_n dX4_readOne_32 rfl ?_
      refine wv_getR fX4_15 dX4_readOne_33 rfl (by first | assumption | rfl) (by first | exact hR _ _ _ rfl | assumption) ?_
      refine wv_getR fX4_140 dX4_readOne_36 rfl (by first | assumption | rfl) (by first | exact hR _ _ _ rfl | assumption) ?_
      refine wv_sipush (v := 20000) dX4_readOne_39 (by decide) ?_
      refine wv_v1u oX2_add kX4_159 dX4_readOne_42 (by omega) (by first | assumption | rfl) ⟨rfl, by decide⟩ (Nat.le_of_ble_eq_true rfl) (Nat.le_of_ble_eq_true rfl) (cL_addG t n _ hg hnl hn) ?_
      refine wv_iload_n dX4_readOne_45 rfl ?_
      refine wv_zret rfl rfl dX4_readOne_46 ?_
      exact ⟨rfl, rfl, rfl, frE_tr hf8i (frE_tr hf7 (adI_fr ht)), rfl, by rw [adI_17 ht]; exact q1, by rw [adI_17 ht]; exact q2, adI_n hnl hn⟩
    | inl s2 =>
      rw [hx2] at h7
      obtain ⟨rfl, rfl, rfl, hf7, rfl, hs7, hno7⟩ := h7
      refine wv_istore_k (i := 2) dX4_readOne_31 rfl (by decide) ?_
      refine wv_aload_n dX4_readOne_32 rfl ?_
      refine wv_getR fX4_15 dX4_readOne_33 rfl (by first | assumption | rfl) (by first | exact hR _ _ _ rfl | assumption) ?_
      refine wv_getR fX4_140 dX4_readOne_36 rfl (by first | assumption | rfl) (by first | exact hR _ _ _ rfl | assumption) ?_
      refine wv_sipush (v := 20000) dX4_readOne_39 (by decide) ?_
      refine wv_v1u oX2_add kX4_159 dX4_readOne_42 (by omega) (by first | assumption | rfl) ⟨rfl, by decide⟩ (Nat.le_of_ble_eq_true rfl) (Nat.le_of_ble_eq_true rfl) (cL_addG t s2.2.1.2 _ hg hs7.2.2.2.1 hs7.2.2.2.2.1) ?_
      refine wv_iload_n dX4_readOne_45 rfl ?_
      refine wv_zret rfl rfl dX4_readOne_46 ?_
      exact ⟨rfl, rfl, rfl, frE_tr hf8i (frE_tr hf7 (adI_fr ht)), rfl, psV_ad ht hs7 _, noF_tr hno8 (noF_tr hno7 ⟨by rw [adI_17 ht], by rw [adI_17 ht]⟩)⟩
  · rw [if_neg hw]
    have e6 : (if isWd T s.1 13 = true then (1 : Int32) else 0) = 0 := if_neg hw
    show wr_P _ _ _ _ _ _ _ _ (pQ L R t I (pb (S s) (fun s' => if rlH T s'.1 = -1 then .inl s' else pb (S (nxt T s')) (fun s2 => .inl (adC (rlH T s'.1) s2)))))
    refine wv_pad 2 ?_
    show wr_V l (d + 1) mX4_readOne 0 [some (.ref 17), some (.int (nI dp)), none, none] [] SH I L R 0 0 _
    refine wv_aload_n dX4_readOne_0 rfl ?_
    refine wv_ldcS (i := 13) rfl (by decide) rfl dX4_readOne_1 ?_
    refine wv_v1e oX4_isWord kX4_56 dX4_readOne_3 (by omega) (by first | assumption | rfl) ⟨rfl, by decide⟩ (Nat.le_of_ble_eq_true rfl) (Nat.le_of_ble_eq_true rfl) (cD_isWord hR T s.1 hT s1 s2 13 (by decide)) ?_
    refine wv_if_eq (tgt := 47) dX4_readOne_6 (by decide) (fun h6 => ?_) (fun h6 => absurd e6 h6)
    refine wv_aload_n dX4_readOne_47 rfl ?_
    refine wv_iload_n dX4_readOne_48 rfl ?_
    refine wv_v1 oX4_readSum kX4_170 dX4_readOne_49 (by omega) (by first | assumption | rfl) ⟨rfl, by decide⟩ (Nat.le_of_ble_eq_true rfl) (Nat.le_of_ble_eq_true rfl) (hS I s hT hs) (fun v9 s9 J9 L9 R9 h9 => ?_)
    cases hx : S s with
    | inr e =>
      rw [hx] at h9
      obtain ⟨rfl, rfl, rfl, hf9, rfl, h9⟩ := h9
      refine wv_if_ne (tgt := 57) dX4_readOne_52 (by decide) (fun h52 => absurd rfl h52) (fun h52 => ?_)
      refine wv_iconst (v := 0) dX4_readOne_55 (by decide) ?_
      refine wv_zret rfl rfl dX4_readOne_56 ?_
      exact ⟨rfl, rfl, rfl, hf9, rfl, h9⟩
    | inl s' =>
      rw [hx] at h9
      obtain ⟨rfl, rfl, rfl, hf9, rfl, hs9, hno9⟩ := h9
      have hT9 := frE_T ht hf9 hT
      show wr_V _ _ _ _ _ _ _ _ _ _ _ _ (pQ _ _ t I (if rlH T s'.1 = -1 then .inl s' else pb (S (nxt T s')) (fun s2 => .inl (adC (rlH T s'.1) s2))))
      refine wv_if_ne (tgt := 57) dX4_readOne_52 (by decide) (fun h52 => ?_) (fun h52 => absurd h52 (by decide))
      refine wv_aload_n dX4_readOne_57 rfl ?_
      refine wv_v0e oX4_relationHere kX4_173 dX4_readOne_58 (by omega) (by first | assumption | rfl) ⟨rfl, by decide⟩ (Nat.le_of_ble_eq_true rfl) (Nat.le_of_ble_eq_true rfl) (cD_rel hR T s'.1 hT9 hs9.1 hs9.2.1) ?_
      refine wv_istore_k (i := 2) dX4_readOne_61 rfl (by decide) ?_
      refine wv_iload_n dX4_readOne_62 rfl ?_
      refine wv_iconst (v := (-1)) dX4_readOne_63 (by decide) ?_
      refine wv_icmp_ne (tgt := 69) dX4_readOne_64 (by decide) (fun h64 => ?_) (fun h64 => ?_)
      · rw [if_neg h64]
        refine wv_aload_n dX4_readOne_69 rfl ?_
        refine wv_v0 oX4_step kX4_44 dX4_readOne_70 (by omega) (by first | assumption | rfl) ⟨rfl, by decide⟩ (Nat.le_of_ble_eq_true rfl) (Nat.le_of_ble_eq_true rfl) (cD_step hR T s'.1.2.2.1 hT9 hs9.2.1.2.2 hs9.1.2.2.1) (fun v8 s8 J8 L8 R8 h8 => ?_)
        obtain ⟨rfl, rfl, rfl, rfl, hk8, hf8⟩ := h8
        have hs8 := psV_nx ht hT.2.1 hs9 hk8 hf8
        have hf8i := frE_tr hf9 (frE_K ht hf8)
        have hno8 := noF_tr hno9 (noF_K hf8)
        refine wv_aload_n dX4_readOne_73 rfl ?_
        refine wv_iload_n dX4_readOne_74 rfl ?_
        refine wv_v1 oX4_readSum kX4_170 dX4_readOne_75 (by omega) (by first | assumption | rfl) ⟨rfl, by decide⟩ (Nat.le_of_ble_eq_true rfl) (Nat.le_of_ble_eq_true rfl) (hS J8 _ (frE_T ht hf8i hT) hs8) (fun v7 s7 J7 L7 R7 h7 => ?_)
        cases hx2 : S (nxt T s') with
        | inr e =>
          rw [hx2] at h7
          obtain ⟨rfl, rfl, rfl, hf7, rfl, q1, q2, n, hn, hnl⟩ := h7
          refine wv_istore_k (i := 3) dX4_readOne_78 rfl (by decide) ?_
          refine wv_aload_n dX4_readOne_79 rfl ?_
          refine wv_getR fX4_15 dX4_readOne_80 rfl (by first | assumption | rfl) (by first | exact hR _ _ _ rfl | assumption) ?_
          refine wv_getR fX4_140 dX4_readOne_83 rfl (by first | assumption | rfl) (by first | exact hR _ _ _ rfl | assumption) ?_
          refine wv_iload_n dX4_readOne_86 rfl ?_
          refine wv_v1u oX2_add kX4_159 dX4_readOne_87 (by omega) (by first | assumption | rfl) ⟨rfl, by decide⟩ (Nat.le_of_ble_eq_true rfl) (Nat.le_of_ble_eq_true rfl) (cL_addG t n _ hg hnl hn) ?_
          refine wv_iload_n dX4_readOne_90 rfl ?_
          refine wv_zret rfl rfl dX4_readOne_91 ?_
          exact ⟨rfl, rfl, rfl, frE_tr hf8i (frE_tr hf7 (adI_fr ht)), rfl, by rw [adI_17 ht]; exact q1, by rw [adI_17 ht]; exact q2, adI_n hnl hn⟩
        | inl s2 =>
          rw [hx2] at h7
          obtain ⟨rfl, rfl, rfl, hf7, rfl, hs7, hno7⟩ := h7
          refine wv_istore_k (i := 3) dX4_readOne_78 rfl (by decide) ?_
          refine wv_aload_n dX4_readOne_79 rfl ?_
          refine wv_getR fX4_15 dX4_readOne_80 rfl (by first | assumption | rfl) (by first | exact hR _ _ _ rfl | assumption) ?_
          refine wv_getR fX4_140 dX4_readOne_83 rfl (by first | assumption | rfl) (by first | exact hR _ _ _ rfl | assumption) ?_
          refine wv_iload_n dX4_readOne_86 rfl ?_
          refine wv_v1u oX2_add kX4_159 dX4_readOne_87 (by omega) (by first | assumption | rfl) ⟨rfl, by decide⟩ (Nat.le_of_ble_eq_true rfl) (Nat.le_of_ble_eq_true rfl) (cL_addG t s2.2.1.2 _ hg hs7.2.2.2.1 hs7.2.2.2.2.1) ?_
          refine wv_iload_n dX4_readOne_90 rfl ?_
          refine wv_zret rfl rfl dX4_readOne_91 ?_
          exact ⟨rfl, rfl, rfl, frE_tr hf8i (frE_tr hf7 (adI_fr ht)), rfl, psV_ad ht hs7 _, noF_tr hno8 (noF_tr hno7 ⟨by rw [adI_17 ht], by rw [adI_17 ht]⟩)⟩
      · rw [if_pos h64]
        refine wv_iconst (v := 1) dX4_readOne_67 (by decide) ?_
        refine wv_zret rfl rfl dX4_readOne_68 ?_
        exact ⟨rfl, rfl, rfl, hf9, rfl, hs9, hno9⟩

theorem CT_mono {l : Launch} {L : wr_TL} {R : wr_TR} {T : TP} {t d d' : Nat} {m : wr_M} {dp : Nat} {X : PS → PR} (h : d ≤ d') (k : CT l L R T t d m dp X) : CT l L R T t d' m dp X := fun I s hT hs => wr_V.mono h (k I s hT hs)
/-- all levels -/
theorem cD_all {l : Launch} {L : wr_TL} {R : wr_TR} {T : TP} {t : Nat} (hR : wr_RC R) (ht : t = 3 ∨ t = 10) (hin : R 17 1 = t + 1) : ∀ f, f ≤ 7 → CT l L R T t (7 * f + 11) mX4_readEither (7 - f) (pEO T f).1 ∧ CT l L R T t (7 * f + 9) mX4_readOne (7 - f) (pEO T f).2 := by
  have up : ∀ (d dp : Nat) (O : PS → PR), 8 ≤ d → CT l L R T t d mX4_readOne dp O → CT l L R T t (d + 2) mX4_readEither dp (pE T O) := by
    intro d dp O hd hO
    have h1 := cD_both hR ht hin d dp (by omega) O hO
    exact cD_eith hR ht hin (d + 1) dp (by omega) _ h1
  intro f
  induction f with
  | zero =>
    intro _
    have hU := cD_unit (l := l) (L := L) (T := T) hR ht hin 5 7 (by omega) rfR (fun I s hT hs _ => cD_nest0 (l := l) (L := L) (T := T) hR ht hin 5 7 (by omega) (by omega) (by omega) I s hT hs)
    have hT1 := cD_term hR ht hin 6 7 (by omega) _ hU
    have hS1 := cD_sum hR ht hin 7 7 (by omega) _ hT1
    have hO1 := cD_one0 hR ht hin 8 7 (by omega) (by omega) (by omega) _ hS1
    exact ⟨up 9 7 _ (by omega) hO1, hO1⟩
  | succ f ih =>
    intro hf
    obtain ⟨hE, hO⟩ := ih (by omega)
    have e1 : 7 - f = 7 - (f + 1) + 1 := by omega
    rw [e1] at hE hO
    have hU := cD_unit (l := l) (L := L) (T := T) hR ht hin (7 * f + 12) (7 - (f + 1)) (by omega) (pNest T (pEO T f).1) (cD_nest hR ht hin (7 * f + 11) (7 - (f + 1)) (by omega) (by omega) _ hE)
    have hT1 := cD_term hR ht hin _ _ (by omega) _ hU
    have hS1 := cD_sum hR ht hin _ _ (by omega) _ hT1
    have hO1 := cD_one hR ht hin _ _ (by omega) (by omega) (pEO T f).2 (CT_mono (by omega) hO) _ hS1
    have hO2 : CT l L R T t (7 * (f + 1) + 9) mX4_readOne (7 - (f + 1)) (pEO T (f + 1)).2 := CT_mono (by omega) hO1
    exact ⟨CT_mono (by omega) (up _ _ _ (by omega) hO2), hO2⟩
