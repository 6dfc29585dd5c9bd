/-! a line, a text, ring -/
set_option maxHeartbeats 4000000 in
set_option maxRecDepth 100000 in
theorem cD_line {l : Launch} {R : wr_TR} {T : TP} {t : Nat} (hR : wr_RC R) (ht : t = 3 ∨ t = 10) (hin : R 17 1 = t + 1) (I : wr_TI) (L : wr_TL) (s : XS) (hT : tpV I T) (hs : lsV I L t s) (r : XR) (hr : lLine T s = r) : wr_P l 62 mX4_readLine [.ref 17] SH I L R (lQ R t I L r) := by
  have hg := isG_of hR ht
  obtain ⟨y0, g0, g1, g2, g3, g4, g5, g6, p0, p1, p2, p3, p4, p5⟩ := id hg
  unfold lLine at hr
  refine wv_pad 0 ?_
  show wr_V l 62 mX4_readLine 0 [some (.ref 17)] [] SH I L R 0 0 _
  refine wv_aload_n dX4_readLine_0 rfl ?_
  refine wv_ldcS (i := 0) rfl (by decide) rfl dX4_readLine_1 ?_
  refine wv_v1e oX4_isWord kX4_56 dX4_readLine_3 (by omega) (by first | assumption | rfl) ⟨rfl, by decide⟩ (Nat.le_of_ble_eq_true rfl) (Nat.le_of_ble_eq_true rfl) (cD_isWord hR T s.1 hT hs.1 hs.2.1 _ (by decide)) ?_
  refine wv_if_eq (tgt := 14) dX4_readLine_6 (by decide) (fun h6 => ?_) (fun h6 => ?_)
  · rw [if10] at h6
    rw [if_neg h6] at hr
    refine wv_aload_n dX4_readLine_14 rfl ?_
    refine wv_ldcS (i := 1) rfl (by decide) rfl dX4_readLine_15 ?_
    refine wv_v1e oX4_isWord kX4_56 dX4_readLine_17 (by omega) (by first | assumption | rfl) ⟨rfl, by decide⟩ (Nat.le_of_ble_eq_true rfl) (Nat.le_of_ble_eq_true rfl) (cD_isWord hR T s.1 hT hs.1 hs.2.1 _ (by decide)) ?_
    refine wv_if_ne (tgt := 41) dX4_readLine_20 (by decide) (fun h20 => ?_) (fun h20 => ?_)
    · rw [if10, Decidable.not_not] at h20
      rw [if_pos h20] at hr
      have hpl := cD_pl0 (l := l) hR ht hin I L s hT hs h20 r hr
      refine wv_aload_n dX4_readLine_41 rfl ?_
      refine wv_v0 oX4_readPlaces kX4_69 dX4_readLine_42 (by omega) (by first | assumption | rfl) ⟨rfl, by decide⟩ (Nat.le_of_ble_eq_true rfl) (Nat.le_of_ble_eq_true rfl) hpl (fun v9 s9 J9 L9 R9 h9 => ?_)
      cases r with
      | inl sF =>
        obtain ⟨rfl, rfl, hf9, rfl, h9⟩ := h9
        refine wv_zret rfl rfl dX4_readLine_45 ?_
        exact ⟨rfl, rfl, hf9, rfl, h9⟩
      | inr e =>
        obtain ⟨rfl, rfl, hf9, rfl, h9⟩ := h9
        refine wv_zret rfl rfl dX4_readLine_45 ?_
        exact ⟨rfl, rfl, hf9, rfl, h9⟩
    · rw [if10] at h20
      rw [if_neg h20] at hr
      refine wv_aload_n dX4_readLine_23 rfl ?_
      refine wv_ldcS (i := 2) rfl (by decide) rfl dX4_readLine_24 ?_
      refine wv_v1e oX4_isWord kX4_56 dX4_readLine_26 (by omega) (by first | assumption | rfl) ⟨rfl, by decide⟩ (Nat.le_of_ble_eq_true rfl) (Nat.le_of_ble_eq_true rfl) (cD_isWord hR T s.1 hT hs.1 hs.2.1 _ (by decide)) ?_
      refine wv_if_ne (tgt := 41) dX4_readLine_29 (by decide) (fun h29 => ?_) (fun h29 => ?_)
      · rw [if10, Decidable.not_not] at h29
        rw [if_pos h29] at hr
        have hpl := cD_pl1 (l := l) hR ht hin I L s hT hs ⟨h20, h29⟩ r hr
        refine wv_aload_n dX4_readLine_41 rfl ?_
        refine wv_v0 oX4_readPlaces kX4_69 dX4_readLine_42 (by omega) (by first | assumption | rfl) ⟨rfl, by decide⟩ (Nat.le_of_ble_eq_true rfl) (Nat.le_of_ble_eq_true rfl) hpl (fun v9 s9 J9 L9 R9 h9 => ?_)
        cases r with
        | inl sF =>
          obtain ⟨rfl, rfl, hf9, rfl, h9⟩ := h9
          refine wv_zret rfl rfl dX4_readLine_45 ?_
          exact ⟨rfl, rfl, hf9, rfl, h9⟩
        | inr e =>
          obtain ⟨rfl, rfl, hf9, rfl, h9⟩ := h9
          refine wv_zret rfl rfl dX4_readLine_45 ?_
          exact ⟨rfl, rfl, hf9, rfl, h9⟩
      · rw [if10] at h29
        rw [if_neg h29] at hr
        refine wv_aload_n dX4_readLine_32 rfl ?_
        refine wv_ldcS (i := 3) rfl (by decide) rfl dX4_readLine_33 ?_
        refine wv_v1e oX4_isWord kX4_56 dX4_readLine_35 (by omega) (by first | assumption | rfl) ⟨rfl, by decide⟩ (Nat.le_of_ble_eq_true rfl) (Nat.le_of_ble_eq_true rfl) (cD_isWord hR T s.1 hT hs.1 hs.2.1 _ (by decide)) ?_
        refine wv_if_eq (tgt := 46) dX4_readLine_38 (by decide) (fun h38 => ?_) (fun h38 => ?_)
        · rw [if10] at h38
          rw [if_neg h38] at hr
          refine wv_aload_n dX4_readLine_46 rfl ?_
          refine wv_ldcS (i := 5) rfl (by decide) rfl dX4_readLine_47 ?_
          refine wv_v1e oX4_isWord kX4_56 dX4_readLine_49 (by omega) (by first | assumption | rfl) ⟨rfl, by decide⟩ (Nat.le_of_ble_eq_true rfl) (Nat.le_of_ble_eq_true rfl) (cD_isWord hR T s.1 hT hs.1 hs.2.1 _ (by decide)) ?_
          refine wv_if_eq (tgt := 60) dX4_readLine_52 (by decide) (fun h52 => ?_) (fun h52 => ?_)
          · rw [if10] at h52
            rw [if_neg h52] at hr
            refine wv_aload_n dX4_readLine_60 rfl ?_
            refine wv_ldcS (i := 7) rfl (by decide) rfl dX4_readLine_61 ?_
            refine wv_v1e oX4_isWord kX4_56 dX4_readLine_63 (by omega) (by first | assumption | rfl) ⟨rfl, by decide⟩ (Nat.le_of_ble_eq_true rfl) (Nat.le_of_ble_eq_true rfl) (cD_isWord hR T s.1 hT hs.1 hs.2.1 _ (by decide)) ?_
            refine wv_if_eq (tgt := 74) dX4_readLine_66 (by decide) (fun h66 => ?_) (fun h66 => ?_)
            · rw [if10] at h66
              rw [if_neg h66] at hr
              subst hr
              refine wv_aload_n dX4_readLine_74 rfl ?_
              refine wv_v0 oX4_refuse kX4_82 dX4_readLine_75 (by omega) (by first | assumption | rfl) ⟨rfl, by decide⟩ (Nat.le_of_ble_eq_true rfl) (Nat.le_of_ble_eq_true rfl) (dL_ref hR ht hT hs) (fun v0 q0 J0 L0 R0 h0 => ?_)
              obtain ⟨rfl, rfl, rfl, rfl, hf0, hfa⟩ := h0
              refine wv_zret rfl rfl dX4_readLine_78 ?_
              exact ⟨rfl, rfl, hf0, rfl, hfa⟩
            · rw [if10, Decidable.not_not] at h66
              rw [if_pos h66] at hr
              refine wv_aload_n dX4_readLine_69 rfl ?_
              refine wv_v0 oX4_readLaw kX4_79 dX4_readLine_70 (by omega) (by first | assumption | rfl) ⟨rfl, by decide⟩ (Nat.le_of_ble_eq_true rfl) (Nat.le_of_ble_eq_true rfl) (cD_law (l := l) hR ht hin I L s hT hs r hr) (fun v9 s9 J9 L9 R9 h9 => ?_)
              cases r with
              | inl sF =>
                obtain ⟨rfl, rfl, hf9, rfl, h9⟩ := h9
                refine wv_zret rfl rfl dX4_readLine_73 ?_
                exact ⟨rfl, rfl, hf9, rfl, h9⟩
              | inr e =>
                obtain ⟨rfl, rfl, hf9, rfl, h9⟩ := h9
                refine wv_zret rfl rfl dX4_readLine_73 ?_
                exact ⟨rfl, rfl, hf9, rfl, h9⟩
          · rw [if10, Decidable.not_not] at h52
            rw [if_pos h52] at hr
            refine wv_aload_n dX4_readLine_55 rfl ?_
            refine wv_v0 oX4_readSlack kX4_74 dX4_readLine_56 (by omega) (by first | assumption | rfl) ⟨rfl, by decide⟩ (Nat.le_of_ble_eq_true rfl) (Nat.le_of_ble_eq_true rfl) (cD_slack (l := l) hR ht hin I L s hT hs r hr) (fun v9 s9 J9 L9 R9 h9 => ?_)
            cases r with
            | inl sF =>
              obtain ⟨rfl, rfl, hf9, rfl, h9⟩ := h9
              refine wv_zret rfl rfl dX4_readLine_59 ?_
              exact ⟨rfl, rfl, hf9, rfl, h9⟩
            | inr e =>
              obtain ⟨rfl, rfl, hf9, rfl, h9⟩ := h9
              refine wv_zret rfl rfl dX4_readLine_59 ?_
              exact ⟨rfl, rfl, hf9, rfl, h9⟩
        · rw [if10, Decidable.not_not] at h38
          rw [if_pos h38] at hr
          have hpl := cD_pl2 (l := l) hR ht hin I L s hT hs ⟨h20, h29⟩ r hr
          refine wv_aload_n dX4_readLine_41 rfl ?_
          refine wv_v0 oX4_readPlaces kX4_69 dX4_readLine_42 (by omega) (by first | assumption | rfl) ⟨rfl, by decide⟩ (Nat.le_of_ble_eq_true rfl) (Nat.le_of_ble_eq_true rfl) hpl (fun v9 s9 J9 L9 R9 h9 => ?_)
          cases r with
          | inl sF =>
            obtain ⟨rfl, rfl, hf9, rfl, h9⟩ := h9
            refine wv_zret rfl rfl dX4_readLine_45 ?_
            exact ⟨rfl, rfl, hf9, rfl, h9⟩
          | inr e =>
            obtain ⟨rfl, rfl, hf9, rfl, h9⟩ := h9
            refine wv_zret rfl rfl dX4_readLine_45 ?_
            exact ⟨rfl, rfl, hf9, rfl, h9⟩
  · rw [if10, Decidable.not_not] at h6
    rw [if_pos h6] at hr
    refine wv_aload_n dX4_readLine_9 rfl ?_
    refine wv_v0 oX4_readSeats kX4_60 dX4_readLine_10 (by omega) (by first | assumption | rfl) ⟨rfl, by decide⟩ (Nat.le_of_ble_eq_true rfl) (Nat.le_of_ble_eq_true rfl) (cD_seats (l := l) hR ht hin I L s hT hs r hr) (fun v9 s9 J9 L9 R9 h9 => ?_)
    cases r with
    | inl sF =>
      obtain ⟨rfl, rfl, hf9, rfl, h9⟩ := h9
      refine wv_zret rfl rfl dX4_readLine_13 ?_
      exact ⟨rfl, rfl, hf9, rfl, h9⟩
    | inr e =>
      obtain ⟨rfl, rfl, hf9, rfl, h9⟩ := h9
      refine wv_zret rfl rfl dX4_readLine_13 ?_
      exact ⟨rfl, rfl, hf9, rfl, h9⟩

def gI (I : wr_TI) (t : Nat) : RG := gE (I (t + 2)) (I (t + 4)) (I (t + 5)) (I (t + 6))
def x0 (T : TP) (g : RG) : XS := (tkS T 0, g, 2, false, false, false)
theorem RC_17 {R : wr_TR} {t : Nat} (hR : wr_RC R) : wr_RC (wr_uR R 17 1 (t + 1)) := fun j k r h => by
  simp only [wr_uR]
  rw [if_neg (by rintro ⟨rfl, rfl⟩; simp [wr_cr] at h)]
  exact hR j k r h
/-- what a text read into a ring leaves -/
def tQ (R : wr_TR) (t : Nat) (I : wr_TI) (L : wr_TL) (r : XR) : wr_TQ := fun v s' I' L' R' => s' = SH ∧ R' = wr_uR R 17 1 (t + 1) ∧ frN t I L I' L' ∧ match r with
  | .inl s => v = some (.int 1) ∧ lsV I' L' t s ∧ fal I' (0, 0) = fal I' (0, 0) ∧ I' 17 9 = 0 ∧ I' 17 10 = -1
  | .inr e => v = some (.int 0) ∧ fal I' e
set_option maxHeartbeats 4000000 in
set_option maxRecDepth 100000 in
theorem cD_into {l : Launch} {I : wr_TI} {L : wr_TL} {R : wr_TR} {T : TP} {t : Nat} (hR : wr_RC R) (ht : t = 3 ∨ t = 10) (hT : tpV I T) (r : XR) (N : Nat) (hN : N = 801) (hr : lText T N (x0 T (gI I t)) = r) : wr_P l 63 mX4_readInto [.ref 17, .ref t] SH I L R (tQ R t I L r) := by
  have hR1 := RC_17 (t := t) hR
  have hin : wr_uR R 17 1 (t + 1) 17 1 = t + 1 := by simp [wr_uR]
  have hg := isG_of hR1 ht
  generalize hRg : wr_uR R 17 1 (t + 1) = R1 at hR1 hin hg
  obtain ⟨y0, g0, g1, g2, g3, g4, g5, g6, p0, p1, p2, p3, p4, p5⟩ := id hg
  have lf : ∀ (i : Nat) (J : wr_TI) (K : wr_TL) (e : Int32 × Nat), i ≤ 801 → frN t I L J K → fal J e → wr_V l 63 mX4_readInto 50 [some (.ref 17), none, some (.int 0), some (.int (nI i))] [] SH J K R1 0 0 (tQ R t I L (.inr e)) := by
    intro i J K e hi hf hfa
    refine wv_iload_n dX4_readInto_50 rfl ?_
    refine wv_sipush (v := 800) dX4_readInto_51 (by decide) ?_
    refine wv_icmp_gt (tgt := 79) dX4_readInto_54 (by decide) (fun h54 => ?_) (fun h54 => ?_)
    · refine wv_iload_n dX4_readInto_79 rfl ?_
      refine wv_zret rfl rfl dX4_readInto_80 ?_
      exact ⟨rfl, hRg.symm, hf, rfl, hfa⟩
    · refine wv_iload_n dX4_readInto_57 rfl ?_
      refine wv_if_eq (tgt := 79) dX4_readInto_58 (by decide) (fun h58 => ?_) (fun h58 => absurd rfl h58)
      refine wv_iload_n dX4_readInto_79 rfl ?_
      refine wv_zret rfl rfl dX4_readInto_80 ?_
      exact ⟨rfl, hRg.symm, hf, rfl, hfa⟩
  have lp : ∀ (k i : Nat) (J : wr_TI) (K : wr_TL) (s : XS), i + k = 801 → frN t I L J K → lsV J K t s → J 17 9 = 0 → J 17 10 = -1 → lText T k s = r → wr_V l 63 mX4_readInto 50 [some (.ref 17), none, some (.int 1), some (.int (nI i))] [] SH J K R1 0 0 (tQ R t I L r) := by
    intro k
    induction k with
    | zero =>
      intro i J K s hi hf hs h9 h10 hr
      subst hr
      refine wv_iload_n dX4_readInto_50 rfl ?_
      refine wv_sipush (v := 800) dX4_readInto_51 (by decide) ?_
      refine wv_icmp_gt (tgt := 79) dX4_readInto_54 (by decide) (fun h54 => ?_) (fun h54 => absurd (nI_lt (a := 800) (by omega) (by omega)) h54)
      refine wv_iload_n dX4_readInto_79 rfl ?_
      refine wv_zret rfl rfl dX4_readInto_80 ?_
      exact ⟨rfl, hRg.symm, hf, rfl, hs, rfl, h9, h10⟩
    | succ k ih =>
      intro i J K s hi hf hs h9 h10 hr
      have hTJ := frN_T ht hf hT
      have hk1 := hs.1.1
      have ho1 := hs.2.1.1
      simp only [lText] at hr
      refine wv_iload_n dX4_readInto_50 rfl ?_
      refine wv_sipush (v := 800) dX4_readInto_51 (by decide) ?_
      refine wv_icmp_gt (tgt := 79) dX4_readInto_54 (by decide) (fun h54 => absurd h54 (nI_nlt (a := 800) (by omega) (by omega))) (fun h54 => ?_)
      refine wv_iload_n dX4_readInto_57 rfl ?_
      refine wv_if_eq (tgt := 79) dX4_readInto_58 (by decide) (fun h58 => absurd h58 (by decide)) (fun h58 => ?_)
      refine wv_aload_n dX4_readInto_61 rfl ?_
      refine wv_getI fX4_47 dX4_readInto_62 rfl (by first | assumption | rfl) ?_
      refine wv_if_eq (tgt := 79) dX4_readInto_65 (by decide) (fun h65 => ?_) (fun h65 => ?_)
      · rw [hk1] at h65
        have hz : s.1.1 = 0 := (nI_eq (b := 0) (by omega) (by omega)).mp h65
        rw [if_pos hz] at hr
        subst hr
        refine wv_iload_n dX4_readInto_79 rfl ?_
        refine wv_zret rfl rfl dX4_readInto_80 ?_
        exact ⟨rfl, hRg.symm, hf, rfl, hs, rfl, h9, h10⟩
      · rw [hk1] at h65
        have hz : ¬ s.1.1 = 0 := fun q => h65 (by rw [q]; rfl)
        rw [if_neg hz] at hr
        refine wv_aload_n dX4_readInto_68 rfl ?_
        refine wv_v0 oX4_readLine kX4_50 dX4_readInto_69 (by omega) (by first | assumption | rfl) ⟨rfl, by decide⟩ (Nat.le_of_ble_eq_true rfl) (Nat.le_of_ble_eq_true rfl) (cD_line (l := l) hR1 ht hin J K s hTJ hs _ rfl) (fun v8 s8 J8 L8 R8 h8 => ?_)
        cases hx : lLine T s with
        | inl s2 =>
          rw [hx] at h8
          rw [hx, lbd_l] at hr
          obtain ⟨rfl, rfl, hf8, rfl, hs8, hno8⟩ := h8
          refine wv_istore_k (i := 2) dX4_readInto_72 rfl (by decide) ?_
          refine wv_iinc (v := nI (i + 1)) dX4_readInto_73 rfl (nI_1 i) (by decide) ?_
          refine wv_goto (tgt := 50) dX4_readInto_76 (by decide) ?_
          exact wv_le (by simp [wr_leq, wr_s1, wr_s2, wr_wide]) (ih (i + 1) J8 L8 s2 (by omega) (frN_tr hf hf8) hs8 (hno8.1.trans h9) (hno8.2.trans h10) hr)
        | inr e =>
          rw [hx] at h8
          rw [hx, lbd_r] at hr
          subst hr
          obtain ⟨rfl, rfl, hf8, rfl, hfa⟩ := h8
          refine wv_istore_k (i := 2) dX4_readInto_72 rfl (by decide) ?_
          refine wv_iinc (v := nI (i + 1)) dX4_readInto_73 rfl (nI_1 i) (by decide) ?_
          refine wv_goto (tgt := 50) dX4_readInto_76 (by decide) ?_
          exact wv_le (by simp [wr_leq, wr_s1, wr_s2, wr_wide]) (lf (i + 1) J8 L8 e (by omega) (frN_tr hf hf8) hfa)
  refine wv_pad 2 ?_
  show wr_V l 63 mX4_readInto 0 [some (.ref 17), some (.ref t), none, none] [] SH I L R 0 0 _
  refine wv_aload_n dX4_readInto_0 rfl ?_
  refine wv_aload_n dX4_readInto_1 rfl ?_
  refine wv_putR fX4_15 dX4_readInto_2 rfl rfl (by first | assumption | rfl) ?_
  rw [hRg]
  refine wv_aload_n dX4_readInto_5 rfl ?_
  refine wv_getR fX4_15 dX4_readInto_6 rfl (by first | assumption | rfl) (by first | exact hR _ _ _ rfl | assumption) ?_
  refine wv_v0 oX5_empty kX4_23 dX4_readInto_9 (by omega) (by first | assumption | rfl) ⟨rfl, by decide⟩ (Nat.le_of_ble_eq_true rfl) (Nat.le_of_ble_eq_true rfl) (cR_empty t hg) (fun v9 s9 J9 L9 R9 h9 => ?_)
  obtain ⟨rfl, rfl, rfl, hV9, hu9, hf9, hL9⟩ := h9
  refine wv_aload_n dX4_readInto_12 rfl ?_
  refine wv_iconst (v := 0) dX4_readInto_13 (by decide) ?_
  refine wv_putI fX4_28 dX4_readInto_14 rfl rfl rfl rfl (by first | assumption | rfl) ?_
  refine wv_aload_n dX4_readInto_17 rfl ?_
  refine wv_iconst (v := 0) dX4_readInto_18 (by decide) ?_
  refine wv_putI fX4_32 dX4_readInto_19 rfl rfl rfl rfl (by first | assumption | rfl) ?_
  refine wv_aload_n dX4_readInto_22 rfl ?_
  refine wv_iconst (v := 0) dX4_readInto_23 (by decide) ?_
  refine wv_putI fX4_35 dX4_readInto_24 rfl rfl rfl rfl (by first | assumption | rfl) ?_
  refine wv_aload_n dX4_readInto_27 rfl ?_
  refine wv_iconst (v := 0) dX4_readInto_28 (by decide) ?_
  refine wv_putI fX4_38 dX4_readInto_29 rfl rfl rfl rfl (by first | assumption | rfl) ?_
  refine wv_aload_n dX4_readInto_32 rfl ?_
  refine wv_iconst (v := (-1)) dX4_readInto_33 (by decide) ?_
  refine wv_putI fX4_19 dX4_readInto_34 rfl rfl rfl rfl (by first | assumption | rfl) ?_
  refine wv_aload_n dX4_readInto_37 rfl ?_
  refine wv_iconst (v := 0) dX4_readInto_38 (by decide) ?_
  refine wv_putI fX4_41 dX4_readInto_39 rfl rfl rfl rfl (by first | assumption | rfl) ?_
  have e17 : ∀ b, b ≠ 17 → wr_uI (wr_uI (wr_uI (wr_uI (wr_uI (wr_uI J9 17 2 0) 17 3 0) 17 4 0) 17 9 0) 17 10 (-1)) 17 7 0 b = J9 b := fun b hb => by rw [wr_uI_ne hb, wr_uI_ne hb, wr_uI_ne hb, wr_uI_ne hb, wr_uI_ne hb, wr_uI_ne hb]
  have hT5 : tpV (wr_uI (wr_uI (wr_uI (wr_uI (wr_uI (wr_uI J9 17 2 0) 17 3 0) 17 4 0) 17 9 0) 17 10 (-1)) 17 7 0) T := tpV_fr hT (by rw [e17 1 (by omega)]; exact hf9 1 (by omega) (by omega) (by omega)) (by rw [e17 2 (by omega)]; exact hf9 2 (by omega) (by omega) (by omega))
  refine wv_aload_n dX4_readInto_42 rfl ?_
  refine wv_v0 oX4_step kX4_44 dX4_readInto_43 (by omega) (by first | assumption | rfl) ⟨rfl, by decide⟩ (Nat.le_of_ble_eq_true rfl) (Nat.le_of_ble_eq_true rfl) (cD_step hR1 T 0 hT5 (by omega) (by simp [wr_uI]; rfl)) (fun v8 s8 J8 L8 R8 h8 => ?_)
  obtain ⟨rfl, rfl, rfl, rfl, hk8, hf8⟩ := h8
  refine wv_iconst (v := 1) dX4_readInto_46 (by decide) ?_
  refine wv_istore_k (i := 2) dX4_readInto_47 rfl (by decide) ?_
  refine wv_iconst (v := nI 0) dX4_readInto_48 rfl ?_
  refine wv_istore_k (i := 3) dX4_readInto_49 rfl (by decide) ?_
  have e8 : ∀ b, b ≠ 17 → J8 b = J9 b := fun b hb => (hf8.1 b hb).trans (e17 b hb)
  refine wv_le (by simp [wr_leq, wr_s1, wr_s2, wr_wide]) (lp N 0 J8 _ (x0 T (gI I t)) (by omega) ⟨fun b b1 b2 => ?_, hL9⟩ ⟨hk8, tkS_o hT.2.1 (by omega), ?_, ?_, by show 2 ≤ 30; omega, ?_, ?_, ?_, fun _ x => ⟨rfl, rfl, rfl⟩⟩ ?_ ?_ hr)
  · rw [e8 b b1]
    by_cases hb : b = t + 3
    · subst hb; exact hf9 _ (by omega) (by omega) (by omega)
    · exact hf9 b (by omega) (by omega) (by omega)
  · exact rgW_fr (rgV_W.mp hV9).1 (fun a a1 a2 a3 => e8 a (by omega))
  · rw [e8 (t + 1) (by omega)]; exact hu9
  · rw [hf8.2 2 (by omega) (by omega) (by omega) (by omega)]; simp [wr_uI, bI, x0]
  · rw [hf8.2 3 (by omega) (by omega) (by omega) (by omega)]; simp [wr_uI, bI, x0]
  · rw [hf8.2 4 (by omega) (by omega) (by omega) (by omega)]; simp [wr_uI, bI, x0]
  · rw [hf8.2 9 (by omega) (by omega) (by omega) (by omega)]; simp [wr_uI]
  · rw [hf8.2 10 (by omega) (by omega) (by omega) (by omega)]; simp [wr_uI]

