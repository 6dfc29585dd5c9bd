/-! the model: operand and sign -/
theorem kn_lk {T : TP} {k : TK} : (lkH T k = -1 ∧ knI T k = -1) ∨ ∃ j, j < 7 ∧ lkH T k = nI j ∧ knI T k = nI (j + 1) ∧ k.1 = 1 := by
  by_cases h0 : isWd T k 14 = true
  · exact .inr ⟨0, by omega, by simp only [lkH, if_pos h0]; rfl, by simp only [knI, if_pos h0]; rfl, (isW_1 h0).1⟩
  · by_cases h1 : isWd T k 15 = true
    · exact .inr ⟨1, by omega, by simp only [lkH, if_neg h0, if_pos h1]; rfl, by simp only [knI, if_neg h0, if_pos h1]; rfl, (isW_1 h1).1⟩
    · by_cases h2 : isWd T k 5 = true
      · exact .inr ⟨2, by omega, by simp only [lkH, if_neg h0, if_neg h1, if_pos h2]; rfl, by simp only [knI, if_neg h0, if_neg h1, if_pos h2]; rfl, (isW_1 h2).1⟩
      · by_cases h3 : isWd T k 16 = true
        · exact .inr ⟨3, by omega, by simp only [lkH, if_neg h0, if_neg h1, if_neg h2, if_pos h3]; rfl, by simp only [knI, if_neg h0, if_neg h1, if_neg h2, if_pos h3]; rfl, (isW_1 h3).1⟩
        · by_cases h4 : isWd T k 17 = true
          · exact .inr ⟨4, by omega, by simp only [lkH, if_neg h0, if_neg h1, if_neg h2, if_neg h3, if_pos h4]; rfl, by simp only [knI, if_neg h0, if_neg h1, if_neg h2, if_neg h3, if_pos h4]; rfl, (isW_1 h4).1⟩
          · by_cases h5 : isWd T k 18 = true
            · exact .inr ⟨5, by omega, by simp only [lkH, if_neg h0, if_neg h1, if_neg h2, if_neg h3, if_neg h4, if_pos h5]; rfl, by simp only [knI, if_neg h0, if_neg h1, if_neg h2, if_neg h3, if_neg h4, if_pos h5]; rfl, (isW_1 h5).1⟩
            · by_cases h6 : isWd T k 19 = true
              · exact .inr ⟨6, by omega, by simp only [lkH, if_neg h0, if_neg h1, if_neg h2, if_neg h3, if_neg h4, if_neg h5, if_pos h6]; rfl, by simp only [knI, if_neg h0, if_neg h1, if_neg h2, if_neg h3, if_neg h4, if_neg h5, if_pos h6]; rfl, (isW_1 h6).1⟩
              · exact .inl ⟨by simp only [lkH, if_neg h0, if_neg h1, if_neg h2, if_neg h3, if_neg h4, if_neg h5, if_neg h6], by simp only [knI, if_neg h0, if_neg h1, if_neg h2, if_neg h3, if_neg h4, if_neg h5, if_neg h6]⟩

theorem wd_u {T : TP} {k : TK} (hG : tkG T k) {i j : Nat} (hi : i < 22) (hj : j < 22) (h1 : isWd T k i = true) (h2 : isWd T k j = true) : encW i = encW j := by
  have e1 := (wd_enc hG (isW_1 h1).1 hi).mpr h1
  have e2 := (wd_enc hG (isW_1 h1).1 hj).mpr h2
  exact (pk_lEQ (encW_ok i hi).1 (encW_ok j hj).1).mp (e1.symm.trans e2)
theorem kn_not {T : TP} {k : TK} (hG : tkG T k) (h : isWd T k 13 = true) : knI T k = -1 := by
  have hn : ∀ j, j < 22 → encW 13 ≠ encW j → ¬ isWd T k j = true := fun j hj hne z => hne (wd_u hG (by decide) hj h z)
  unfold knI
  rw [if_neg (hn 14 (by decide) (by decide +kernel)), if_neg (hn 15 (by decide) (by decide +kernel)), if_neg (hn 5 (by decide) (by decide +kernel)), if_neg (hn 16 (by decide) (by decide +kernel)), if_neg (hn 17 (by decide) (by decide +kernel)), if_neg (hn 18 (by decide) (by decide +kernel)), if_neg (hn 19 (by decide) (by decide +kernel))]
theorem ynd_le : ∀ W : List Nat, ynd W ≤ W.length := by
  intro W
  induction W with
  | nil => exact Nat.le_refl _
  | cons a W ih => simp only [ynd, List.length_cons]; split <;> omega
def yQ (I : wr_TI) (L : wr_TL) (R : wr_TR) (T : TP) (r : YR) : wr_TQ := fun v s' I' L' R' => s' = SH ∧ R' = R ∧ frY I L I' L' ∧ match r with
  | .inl c => v = some (.int (nI c.2.2)) ∧ yM I' L' T c.1 c.2.1
  | .inr e => (∃ x, v = some (.int x)) ∧ mfl I' e
theorem yM_u {I : wr_TI} {L : wr_TL} {T : TP} {s : PS} {W : List Nat} (h : yM I L T s W) : yM (wr_uI I 55 45 (nI (s.2.2 + 1))) L T (unC s) W ∧ frY I L (wr_uI I 55 45 (nI (s.2.2 + 1))) L := by
  obtain ⟨h1, h2, h3, h4, h5, h6, h7⟩ := h
  have h55 : ∀ k, k ≠ 45 → wr_uI I 55 45 (nI (s.2.2 + 1)) 55 k = I 55 k := fun k hk => by simp [wr_uI, hk]
  refine ⟨⟨mrd_fr h1 (fun j hj => h55 j (by omega)) (wr_uI_ne (by omega)), ?_, ?_, ?_, ?_, ?_, ?_⟩, fun b b1 _ _ _ => wr_uI_ne b1, fun k _ _ _ _ _ _ _ k8 _ _ => h55 k k8, fun _ _ => rfl, fun _ _ => rfl⟩
  · rw [h55 43 (by omega)]; exact h2
  · rw [wr_uI_ne (by omega), wr_uI_ne (by omega)]; exact h3
  · simp [wr_uI, unC]
  · rw [h55 47 (by omega)]; exact h5
  · rw [wr_uI_ne (by omega)]; exact h6
  · rw [h55 48 (by omega)]; exact h7
theorem yM_c {I : wr_TI} {L : wr_TL} {T : TP} {s : PS} {W : List Nat} (h : yM I L T s (30 :: W)) : yM (wr_uI (wr_uI I 55 47 (nI W.length)) 55 48 (nI (ynd W))) L T s W ∧ frY I L (wr_uI (wr_uI I 55 47 (nI W.length)) 55 48 (nI (ynd W))) L := by
  obtain ⟨h1, h2, h3, h4, h5, h6, h7⟩ := h
  have h55 : ∀ k, k ≠ 47 → k ≠ 48 → wr_uI (wr_uI I 55 47 (nI W.length)) 55 48 (nI (ynd W)) 55 k = I 55 k := fun k hk hk2 => by simp [wr_uI, hk, hk2]
  have hne : ∀ b, b ≠ 55 → wr_uI (wr_uI I 55 47 (nI W.length)) 55 48 (nI (ynd W)) b = I b := fun b hb => by rw [wr_uI_ne hb, wr_uI_ne hb]
  refine ⟨⟨mrd_fr h1 (fun j hj => h55 j (by omega) (by omega)) (hne _ (by omega)), ?_, ?_, ?_, ?_, ?_, ?_⟩, fun b b1 _ _ _ => hne b b1, fun k _ _ _ _ _ _ _ _ k9 k0 => h55 k k9 k0, fun _ _ => rfl, fun _ _ => rfl⟩
  · rw [h55 43 (by omega) (by omega)]; exact h2
  · rw [hne 69 (by omega), hne 70 (by omega)]; exact h3
  · rw [h55 45 (by omega) (by omega)]; exact h4
  · simp [wr_uI]
  · rw [hne 73 (by omega)]; exact h6.2
  · simp [wr_uI]
set_option maxHeartbeats 4000000 in
set_option maxRecDepth 100000 in
theorem x_operand {l : Launch} {I : wr_TI} {L : wr_TL} {R : wr_TR} (hR : wr_RC R) (T : TP) (s : PS) (W : List Nat) (now : Nat) (h : yM I L T s W) (hi : yiv s W now) (hn : now < 2) : wr_P l 2 mX8_operand [.ref 55, .int (nI now)] SH I L R (yQ I L R T (yopd T s W now)) := by
  obtain ⟨m1, h2, h3, h4, h5, h6, h7⟩ := id h
  have hb := (yiv_n hi m1.2.1).1
  have hyl := ynd_le W
  have h0 := m1.2.2.1
  have hu := hi.1
  have hG := m1.2.1
  obtain ⟨s4, s1', s2, s0, sS⟩ := srt m1.1 m1.2.1
  have s40 := sS 40 (by decide)
  have g98 : ∀ (a b c : Int32), wr_V l 2 mX8_operand 98 [some (.ref 55), some (.int (nI now)), some (.int a), some (.int b), some (.int c)] [] SH I L R 0 0 (yQ I L R T (yrf s)) := by
    intro a b c
    refine wv_aload_n dX8_operand_98 rfl ?_
    refine wv_iconst (v := 2) dX8_operand_99 (by decide) ?_
    refine wv_v1 oX8_wrong kX8_207 dX8_operand_100 (by omega) (by first | assumption | rfl) ⟨rfl, by decide⟩ (Nat.le_of_ble_eq_true rfl) (Nat.le_of_ble_eq_true rfl) (x_wrong m1 2 (by decide)) (fun v9 s9 J9 L9 R9 h9 => ?_)
    obtain ⟨rfl, rfl, rfl, rfl, hm9, hf9⟩ := h9
    refine wv_aload_n dX8_operand_103 rfl ?_
    refine wv_getI fX8_200 dX8_operand_104 rfl (by first | assumption | rfl) ?_
    refine wv_if_le (tgt := 112) dX8_operand_107 (by decide) (fun h107 => absurd h107 (by rw [hm9.1]; exact Int32.not_le.mpr hm9.2.2)) (fun h107 => ?_)
    refine wv_iload_n dX8_operand_110 rfl ?_
    refine wv_iret rfl dX8_operand_111 ?_
    exact ⟨rfl, rfl, frY_W hf9, ⟨_, rfl⟩, hm9⟩
  by_cases hw : now = 0 ∧ isWd T s.1 13 = true
  · obtain ⟨e0, hw2⟩ := id hw
    have k1 := (isW_1 hw2).1
    have ekn := kn_not hG hw2
    unfold yopd
    rw [if_pos hw]
    by_cases h7d : 7 ≤ ynd W
    · rw [if_pos h7d]
      refine wv_pad 3 ?_
      show wr_V l 2 mX8_operand 0 [some (.ref 55), some (.int (nI now)), none, none, none] [] SH I L R 0 0 _
      refine wv_iload_n dX8_operand_0 rfl ?_
      refine wv_if_ne (tgt := 18) dX8_operand_1 (by decide) (fun h1 => absurd (show nI now = 0 by rw [e0]; rfl) h1) (fun h1 => ?_)
      refine wv_aload_n dX8_operand_4 rfl ?_
      refine wv_ldc2_w nX8_255 dX8_operand_5 ?_
      refine wv_v1e oX8_isWord kX8_203 dX8_operand_8 (by omega) (by first | assumption | rfl) ⟨rfl, by decide⟩ (Nat.le_of_ble_eq_true rfl) (Nat.le_of_ble_eq_true rfl) (x_isWord T s.1 m1.1 m1.2.1 13 (by decide) _ (by decide +kernel)) ?_
      refine wv_if_eq (tgt := 18) dX8_operand_11 (by decide) (fun h11 => absurd h11 (by rw [if_pos hw2]; decide)) (fun h11 => ?_)
      refine wv_iconst (v := 1) dX8_operand_14 (by decide) ?_
      refine wv_goto (tgt := 19) dX8_operand_15 (by decide) ?_
      refine wv_istore_k (i := 2) dX8_operand_19 rfl (by decide) ?_
      refine wv_aload_n dX8_operand_20 rfl ?_
      refine wv_v0e oX8_known kX8_257 dX8_operand_21 (by omega) (by first | assumption | rfl) ⟨rfl, by decide⟩ (Nat.le_of_ble_eq_true rfl) (Nat.le_of_ble_eq_true rfl) (x_known T s.1 m1.1 m1.2.1) ?_
      refine wv_istore_k (i := 3) dX8_operand_24 rfl (by decide) ?_
      refine wv_aload_n dX8_operand_25 rfl ?_
      refine wv_getI fX8_187 dX8_operand_26 rfl (by first | assumption | rfl) ?_
      refine wv_iconst (v := 2) dX8_operand_29 (by decide) ?_
      refine wv_icmp_eq (tgt := 46) dX8_operand_30 (by decide) (fun h30 => absurd h30 (fun z => by have := s2.mp z; omega)) (fun h30 => ?_)
      refine wv_aload_n dX8_operand_33 rfl ?_
      refine wv_getI fX8_187 dX8_operand_34 rfl (by first | assumption | rfl) ?_
      refine wv_bipush (v := 40) dX8_operand_37 (by decide) ?_
      refine wv_icmp_eq (tgt := 46) dX8_operand_39 (by decide) (fun h39 => absurd h39 (fun z => isS_w (s40.mp z) hw2)) (fun h39 => ?_)
      refine wv_iload_n dX8_operand_42 rfl ?_
      refine wv_if_lt (tgt := 50) dX8_operand_43 (by decide) (fun h43 => ?_) (fun h43 => absurd (by rw [ekn]; decide) h43)
      refine wv_iconst (v := 0) dX8_operand_50 (by decide) ?_
      refine wv_istore dX8_operand_51 (by decide) ?_
      refine wv_iload_n dX8_operand_53 rfl ?_
      refine wv_if_ne (tgt := 62) dX8_operand_54 (by decide) (fun h54 => ?_) (fun h54 => absurd h54 (by decide))
      refine wv_iload dX8_operand_62 rfl ?_
      refine wv_if_eq (tgt := 76) dX8_operand_64 (by decide) (fun h64 => ?_) (fun h64 => absurd rfl h64)
      refine wv_iload_n dX8_operand_76 rfl ?_
      refine wv_if_ne (tgt := 89) dX8_operand_77 (by decide) (fun h77 => ?_) (fun h77 => absurd h77 (by decide))
      refine wv_aload_n dX8_operand_89 rfl ?_
      refine wv_getI fX8_227 dX8_operand_90 rfl (by first | assumption | rfl) ?_
      refine wv_bipush (v := 7) dX8_operand_93 (by decide) ?_
      refine wv_icmp_lt (tgt := 103) dX8_operand_95 (by decide) (fun h95 => absurd h95 (by rw [h7]; exact nI_nlt (b := 7) (by omega) (by omega))) (fun h95 => ?_)
      exact wv_le (by simp [wr_leq, wr_s1, wr_s2, wr_wide]) (g98 1 (knI T s.1) 0)
    · rw [if_neg h7d]
      subst e0
      refine wv_pad 3 ?_
      show wr_V l 2 mX8_operand 0 [some (.ref 55), some (.int (nI 0)), none, none, none] [] SH I L R 0 0 _
      refine wv_iload_n dX8_operand_0 rfl ?_
      refine wv_if_ne (tgt := 18) dX8_operand_1 (by decide) (fun h1 => absurd (show nI 0 = 0 from rfl) h1) (fun h1 => ?_)
      refine wv_aload_n dX8_operand_4 rfl ?_
      refine wv_ldc2_w nX8_255 dX8_operand_5 ?_
      refine wv_v1e oX8_isWord kX8_203 dX8_operand_8 (by omega) (by first | assumption | rfl) ⟨rfl, by decide⟩ (Nat.le_of_ble_eq_true rfl) (Nat.le_of_ble_eq_true rfl) (x_isWord T s.1 m1.1 m1.2.1 13 (by decide) _ (by decide +kernel)) ?_
      refine wv_if_eq (tgt := 18) dX8_operand_11 (by decide) (fun h11 => absurd h11 (by rw [if_pos hw2]; decide)) (fun h11 => ?_)
      refine wv_iconst (v := 1) dX8_operand_14 (by decide) ?_
      refine wv_goto (tgt := 19) dX8_operand_15 (by decide) ?_
      refine wv_istore_k (i := 2) dX8_operand_19 rfl (by decide) ?_
      refine wv_aload_n dX8_operand_20 rfl ?_
      refine wv_v0e oX8_known kX8_257 dX8_operand_21 (by omega) (by first | assumption | rfl) ⟨rfl, by decide⟩ (Nat.le_of_ble_eq_true rfl) (Nat.le_of_ble_eq_true rfl) (x_known T s.1 m1.1 m1.2.1) ?_
      refine wv_istore_k (i := 3) dX8_operand_24 rfl (by decide) ?_
      refine wv_aload_n dX8_operand_25 rfl ?_
      refine wv_getI fX8_187 dX8_operand_26 rfl (by first | assumption | rfl) ?_
      refine wv_iconst (v := 2) dX8_operand_29 (by decide) ?_
      refine wv_icmp_eq (tgt := 46) dX8_operand_30 (by decide) (fun h30 => absurd h30 (fun z => by have := s2.mp z; omega)) (fun h30 => ?_)
      refine wv_aload_n dX8_operand_33 rfl ?_
      refine wv_getI fX8_187 dX8_operand_34 rfl (by first | assumption | rfl) ?_
      refine wv_bipush (v := 40) dX8_operand_37 (by decide) ?_
      refine wv_icmp_eq (tgt := 46) dX8_operand_39 (by decide) (fun h39 => absurd h39 (fun z => isS_w (s40.mp z) hw2)) (fun h39 => ?_)
      refine wv_iload_n dX8_operand_42 rfl ?_
      refine wv_if_lt (tgt := 50) dX8_operand_43 (by decide) (fun h43 => ?_) (fun h43 => absurd (by rw [ekn]; decide) h43)
      refine wv_iconst (v := 0) dX8_operand_50 (by decide) ?_
      refine wv_istore dX8_operand_51 (by decide) ?_
      refine wv_iload_n dX8_operand_53 rfl ?_
      refine wv_if_ne (tgt := 62) dX8_operand_54 (by decide) (fun h54 => ?_) (fun h54 => absurd h54 (by decide))
      refine wv_iload dX8_operand_62 rfl ?_
      refine wv_if_eq (tgt := 76) dX8_operand_64 (by decide) (fun h64 => ?_) (fun h64 => absurd rfl h64)
      refine wv_iload_n dX8_operand_76 rfl ?_
      refine wv_if_ne (tgt := 89) dX8_operand_77 (by decide) (fun h77 => ?_) (fun h77 => absurd h77 (by decide))
      refine wv_aload_n dX8_operand_89 rfl ?_
      refine wv_getI fX8_227 dX8_operand_90 rfl (by first | assumption | rfl) ?_
      refine wv_bipush (v := 7) dX8_operand_93 (by decide) ?_
      refine wv_icmp_lt (tgt := 103) dX8_operand_95 (by decide) (fun h95 => ?_) (fun h95 => absurd (by rw [h7]; exact nI_lt (b := 7) (by omega) (by omega)) h95)
      refine wv_aload_n dX8_operand_103 rfl ?_
      refine wv_getI fX8_200 dX8_operand_104 rfl (by first | assumption | rfl) ?_
      refine wv_if_le (tgt := 112) dX8_operand_107 (by decide) (fun h107 => ?_) (fun h107 => absurd (by rw [h0]; exact Int32.le_refl _) h107)
      refine wv_iload_n dX8_operand_112 rfl ?_
      refine wv_if_eq (tgt := 128) dX8_operand_113 (by decide) (fun h113 => absurd h113 (by decide)) (fun h113 => ?_)
      refine wv_aload_n dX8_operand_116 rfl ?_
      refine wv_bipush (v := nI 22) dX8_operand_117 rfl ?_
      refine wv_v1 oX8_hold kX8_263 dX8_operand_119 (by omega) (by first | assumption | rfl) ⟨rfl, by decide⟩ (Nat.le_of_ble_eq_true rfl) (Nat.le_of_ble_eq_true rfl) (x_hold hR T s W 22 h (by omega) (by omega)) (fun v9 s9 J9 L9 R9 h9 => ?_)
      obtain ⟨rfl, rfl, rfl, rfl, hm9, hf9⟩ := h9
      refine wv_aload_n dX8_operand_122 rfl ?_
      refine wv_v0 oX8_token kX8_210 dX8_operand_123 (by omega) (by first | assumption | rfl) ⟨rfl, by decide⟩ (Nat.le_of_ble_eq_true rfl) (Nat.le_of_ble_eq_true rfl) (x_tok hR hm9.1 (show ¬ s.1.1 = 4 by omega)) (fun v8 s8 J8 L8 R8 h8 => ?_)
      obtain ⟨rfl, rfl, rfl, hm8, hf8⟩ := h8
      refine wv_iconst (v := 0) dX8_operand_126 (by decide) ?_
      refine wv_iret rfl dX8_operand_127 ?_
      exact ⟨rfl, rfl, frY_tr hf9 (frY_W hf8), rfl, yM_W hm9 hm8 hf8⟩
  · have g20 : wr_V l 2 mX8_operand 20 [some (.ref 55), some (.int (nI now)), some (.int 0), none, none] [] SH I L R 0 0 (yQ I L R T (yopd T s W now)) := by
      by_cases hun : s.1.1 = 2 ∨ isS T s.1 40 = true ∨ ¬ lkH T s.1 = -1
      · have hkn : ¬ I 55 6 = 2 → ¬ I 55 6 = 40 → ¬ knI T s.1 < 0 := fun z1 z2 => by
          rcases kn_lk (T := T) (k := s.1) with ⟨e1, e2⟩ | ⟨j, hj, e1, e2, e3⟩
          · exfalso
            rcases hun with z | z | z
            · exact z1 (s2.mpr z)
            · exact z2 (s40.mpr z)
            · exact z e1
          · rw [e2]; exact nI_pos (by omega)
        have g53 : wr_V l 2 mX8_operand 53 [some (.ref 55), some (.int (nI now)), some (.int 0), some (.int (knI T s.1)), some (.int 1)] [] SH I L R 0 0 (yQ I L R T (yopd T s W now)) := by
          unfold yopd
          rw [if_neg hw]
          by_cases h30 : 30 ≤ s.2.2
          · rw [if_pos h30]
            have e30 : s.2.2 = 30 := by omega
            refine wv_iload_n dX8_operand_53 rfl ?_
            refine wv_if_ne (tgt := 62) dX8_operand_54 (by decide) (fun h54 => absurd (rfl : (0 : Int32) = 0) h54) (fun h54 => ?_)
            refine wv_iload dX8_operand_57 rfl ?_
            refine wv_if_eq (tgt := 98) dX8_operand_59 (by decide) (fun h59 => absurd h59 (by decide)) (fun h59 => ?_)
            refine wv_iload dX8_operand_62 rfl ?_
            refine wv_if_eq (tgt := 76) dX8_operand_64 (by decide) (fun h64 => absurd h64 (by decide)) (fun h64 => ?_)
            refine wv_aload_n dX8_operand_67 rfl ?_
            refine wv_getI fX8_260 dX8_operand_68 rfl (by first | assumption | rfl) ?_
            refine wv_bipush (v := 30) dX8_operand_71 (by decide) ?_
            refine wv_icmp_eq (tgt := 98) dX8_operand_73 (by decide) (fun h73 => ?_) (fun h73 => absurd (by rw [h4, e30]; rfl) h73)
            exact wv_le (by simp [wr_leq, wr_s1, wr_s2, wr_wide]) (g98 0 (knI T s.1) 1)
          · rw [if_neg h30]
            have n30 : ¬ I 55 45 = 30 := fun z => by rw [h4] at z; have := (nI_eq (b := 30) (by omega) (by omega)).mp z; omega
            by_cases h40 : isS T s.1 40 = true
            · rw [if_pos h40]
              have k3 := isS_3 h40
              by_cases h7d : 7 ≤ ynd W
              · rw [if_pos h7d]
                refine wv_iload_n dX8_operand_53 rfl ?_
                refine wv_if_ne (tgt := 62) dX8_operand_54 (by decide) (fun h54 => absurd (rfl : (0 : Int32) = 0) h54) (fun h54 => ?_)
                refine wv_iload dX8_operand_57 rfl ?_
                refine wv_if_eq (tgt := 98) dX8_operand_59 (by decide) (fun h59 => absurd h59 (by decide)) (fun h59 => ?_)
                refine wv_iload dX8_operand_62 rfl ?_
                refine wv_if_eq (tgt := 76) dX8_operand_64 (by decide) (fun h64 => absurd h64 (by decide)) (fun h64 => ?_)
                refine wv_aload_n dX8_operand_67 rfl ?_
                refine wv_getI fX8_260 dX8_operand_68 rfl (by first | assumption | rfl) ?_
                refine wv_bipush (v := 30) dX8_operand_71 (by decide) ?_
                refine wv_icmp_eq (tgt := 98) dX8_operand_73 (by decide) (fun h73 => absurd h73 n30) (fun h73 => ?_)
                refine wv_iload_n dX8_operand_76 rfl ?_
                refine wv_if_ne (tgt := 89) dX8_operand_77 (by decide) (fun h77 => absurd (rfl : (0 : Int32) = 0) h77) (fun h77 => ?_)
                refine wv_aload_n dX8_operand_80 rfl ?_
                refine wv_getI fX8_187 dX8_operand_81 rfl (by first | assumption | rfl) ?_
                refine wv_bipush (v := 40) dX8_operand_84 (by decide) ?_
                refine wv_icmp_ne (tgt := 103) dX8_operand_86 (by decide) (fun h86 => absurd (s40.mpr h40) h86) (fun h86 => ?_)
                refine wv_aload_n dX8_operand_89 rfl ?_
                refine wv_getI fX8_227 dX8_operand_90 rfl (by first | assumption | rfl) ?_
                refine wv_bipush (v := 7) dX8_operand_93 (by decide) ?_
                refine wv_icmp_lt (tgt := 103) dX8_operand_95 (by decide) (fun h95 => absurd h95 (by rw [h7]; exact nI_nlt (b := 7) (by omega) (by omega))) (fun h95 => ?_)
                exact wv_le (by simp [wr_leq, wr_s1, wr_s2, wr_wide]) (g98 0 (knI T s.1) 1)
              · rw [if_neg h7d]
                obtain ⟨hu1, hu2⟩ := yM_u h
                refine wv_iload_n dX8_operand_53 rfl ?_
                refine wv_if_ne (tgt := 62) dX8_operand_54 (by decide) (fun h54 => absurd (rfl : (0 : Int32) = 0) h54) (fun h54 => ?_)
                refine wv_iload dX8_operand_57 rfl ?_
                refine wv_if_eq (tgt := 98) dX8_operand_59 (by decide) (fun h59 => absurd h59 (by decide)) (fun h59 => ?_)
                refine wv_iload dX8_operand_62 rfl ?_
                refine wv_if_eq (tgt := 76) dX8_operand_64 (by decide) (fun h64 => absurd h64 (by decide)) (fun h64 => ?_)
                refine wv_aload_n dX8_operand_67 rfl ?_
                refine wv_getI fX8_260 dX8_operand_68 rfl (by first | assumption | rfl) ?_
                refine wv_bipush (v := 30) dX8_operand_71 (by decide) ?_
                refine wv_icmp_eq (tgt := 98) dX8_operand_73 (by decide) (fun h73 => absurd h73 n30) (fun h73 => ?_)
                refine wv_iload_n dX8_operand_76 rfl ?_
                refine wv_if_ne (tgt := 89) dX8_operand_77 (by decide) (fun h77 => absurd (rfl : (0 : Int32) = 0) h77) (fun h77 => ?_)
                refine wv_aload_n dX8_operand_80 rfl ?_
                refine wv_getI fX8_187 dX8_operand_81 rfl (by first | assumption | rfl) ?_
                refine wv_bipush (v := 40) dX8_operand_84 (by decide) ?_
                refine wv_icmp_ne (tgt := 103) dX8_operand_86 (by decide) (fun h86 => absurd (s40.mpr h40) h86) (fun h86 => ?_)
                refine wv_aload_n dX8_operand_89 rfl ?_
                refine wv_getI fX8_227 dX8_operand_90 rfl (by first | assumption | rfl) ?_
                refine wv_bipush (v := 7) dX8_operand_93 (by decide) ?_
                refine wv_icmp_lt (tgt := 103) dX8_operand_95 (by decide) (fun h95 => ?_) (fun h95 => absurd (by rw [h7]; exact nI_lt (b := 7) (by omega) (by omega)) h95)
                refine wv_aload_n dX8_operand_103 rfl ?_
                refine wv_getI fX8_200 dX8_operand_104 rfl (by first | assumption | rfl) ?_
                refine wv_if_le (tgt := 112) dX8_operand_107 (by decide) (fun h107 => ?_) (fun h107 => absurd (by rw [h0]; exact Int32.le_refl _) h107)
                refine wv_iload_n dX8_operand_112 rfl ?_
                refine wv_if_eq (tgt := 128) dX8_operand_113 (by decide) (fun h113 => ?_) (fun h113 => absurd rfl h113)
                refine wv_aload_n dX8_operand_128 rfl ?_
                refine wv_dup dX8_operand_129 rfl ?_
                refine wv_getI fX8_260 dX8_operand_130 rfl (by first | assumption | rfl) ?_
                refine wv_iconst (v := 1) dX8_operand_133 (by decide) ?_
                refine wv_iadd dX8_operand_134 ?_
                rw [h4, nI_1]
                refine wv_putI fX8_260 dX8_operand_135 rfl rfl rfl rfl (by first | assumption | rfl) ?_
                refine wv_aload_n dX8_operand_138 rfl ?_
                refine wv_getI fX8_187 dX8_operand_139 rfl (by first | assumption | rfl) ?_
                refine wv_bipush (v := 40) dX8_operand_142 (by decide) ?_
                refine wv_icmp_ne (tgt := 159) dX8_operand_144 (by decide) (fun h144 => absurd (by simp only [wr_uI]; rw [if_neg (by omega)]; exact s40.mpr h40) h144) (fun h144 => ?_)
                refine wv_aload_n dX8_operand_147 rfl ?_
                refine wv_bipush (v := nI 30) dX8_operand_148 rfl ?_
                refine wv_v1 oX8_hold kX8_263 dX8_operand_150 (by omega) (by first | assumption | rfl) ⟨rfl, by decide⟩ (Nat.le_of_ble_eq_true rfl) (Nat.le_of_ble_eq_true rfl) (x_hold hR T (unC s) W 30 hu1 (by omega) (by omega)) (fun v9 s9 J9 L9 R9 h9 => ?_)
                obtain ⟨rfl, rfl, rfl, rfl, hm9, hf9⟩ := h9
                refine wv_aload_n dX8_operand_153 rfl ?_
                refine wv_v0 oX8_token kX8_210 dX8_operand_154 (by omega) (by first | assumption | rfl) ⟨rfl, by decide⟩ (Nat.le_of_ble_eq_true rfl) (Nat.le_of_ble_eq_true rfl) (x_tok hR hm9.1 (show ¬ s.1.1 = 4 by omega)) (fun v8 s8 J8 L8 R8 h8 => ?_)
                obtain ⟨rfl, rfl, rfl, hm8, hf8⟩ := h8
                refine wv_iconst (v := 0) dX8_operand_157 (by decide) ?_
                refine wv_iret rfl dX8_operand_158 ?_
                exact ⟨rfl, rfl, frY_tr hu2 (frY_tr hf9 (frY_W hf8)), rfl, yM_W hm9 hm8 hf8⟩
            · rw [if_neg h40]
              have n40 : ¬ I 55 6 = 40 := fun z => h40 (s40.mp z)
              have hno : ¬ (s.1.1 ≠ 2 ∧ lkH T s.1 = -1) := fun z => by
                rcases hun with q | q | q
                · exact z.1 q
                · exact h40 q
                · exact q z.2
              rw [if_neg hno]
              have hq : ∃ q, q ≤ 20008 ∧ (if s.1.1 = 2 then s.1.2.2.2 else 10000 + lkH T s.1) = nI q ∧ (knI T s.1 < 0 → whN q = 0) ∧ (¬ knI T s.1 < 0 → knI T s.1 = nI (whN q)) ∧ (q < 10000 → I 55 8 = nI q) := by
                by_cases k2 : s.1.1 = 2
                · obtain ⟨q, q1, q2⟩ := hi.2.2.1 k2
                  rw [if_pos k2]
                  refine ⟨q, by omega, q2, fun _ => by simp [whN, q1], fun z => ?_, fun _ => by rw [← q2]; exact m1.1.2.2.2.1 k2⟩
                  rcases kn_lk (T := T) (k := s.1) with ⟨e1, e2⟩ | ⟨j, hj, e1, e2, e3⟩
                  · rw [e2] at z; exact absurd (by decide) z
                  · omega
                · rw [if_neg k2]
                  rcases kn_lk (T := T) (k := s.1) with ⟨e1, e2⟩ | ⟨j, hj, e1, e2, e3⟩
                  · exact absurd ⟨k2, e1⟩ hno
                  · have ew : whN (10000 + j) = j + 1 := by unfold whN; rw [if_neg (by omega), if_pos (by omega)]; omega
                    refine ⟨10000 + j, by omega, ?_, fun z => ?_, fun _ => by rw [ew, e2], fun z => by omega⟩
                    · rw [e1]; exact nI_add 10000 j
                    · rw [e2] at z; exact absurd z (nI_pos (by omega))
              obtain ⟨q, q1, q2, q3, q4, q5⟩ := hq
              have hnn : ¬ s.1.1 = 4 := fun z => hno ⟨by omega, Decidable.byContradiction (fun y => by have := (lk_1 y).1; omega)⟩
              have hlt : s.2.1.2 < 260 := by
                have y1 := hi.2.2.2
                have y2 := hG.2.2.2.1 (fun z => hno ⟨by omega, Decidable.byContradiction (fun y => by have := (lk_1 y).1; omega)⟩)
                have y3 := hG.1.2.2
                rw [if_neg (by omega)] at y1
                split at y1 <;> omega
              obtain ⟨hu1, hu2⟩ := yM_u h
              have hm9 := yM_n (b := I 55 8) hu1 hlt q1 q5
              have gN : ∀ a : Int32, a = nI (whN q) → wr_V l 2 mX8_operand 169 [some (.ref 55), some (.int (nI now)), some (.int 0), some (.int (knI T s.1)), some (.int 1)] [.int a, .ref 55] SH (wr_uI I 55 45 (nI (s.2.2 + 1))) L R 0 0 (yQ I L R T (.inl (nxt T (yun T s), W, 2))) := by
                intro a ha
                subst ha
                have e8 : wr_uI I 55 45 (nI (s.2.2 + 1)) 55 8 = I 55 8 := by simp [wr_uI]
                refine wv_aload_n dX8_operand_169 rfl ?_
                refine wv_getI fX8_184 dX8_operand_170 rfl (by first | assumption | rfl) ?_
                rw [e8]
                refine wv_v2u oX8_note kX8_230 dX8_operand_173 (by omega) (by first | assumption | rfl) ⟨rfl, by decide⟩ (Nat.le_of_ble_eq_true rfl) (Nat.le_of_ble_eq_true rfl) (x_note hR s.2.1.2 hu1.2.1 (by omega) _ _) ?_
                refine wv_aload_n dX8_operand_176 rfl ?_
                refine wv_v0 oX8_token kX8_210 dX8_operand_177 (by omega) (by first | assumption | rfl) ⟨rfl, by decide⟩ (Nat.le_of_ble_eq_true rfl) (Nat.le_of_ble_eq_true rfl) (x_tok hR hm9.1 hnn) (fun v8 s8 J8 L8 R8 h8 => ?_)
                obtain ⟨rfl, rfl, rfl, hm8, hf8⟩ := h8
                refine wv_iconst (v := 2) dX8_operand_180 (by decide) ?_
                refine wv_iret rfl dX8_operand_181 ?_
                refine ⟨rfl, rfl, frY_tr hu2 (frY_tr frY_n (frY_W hf8)), rfl, ?_⟩
                have := yM_W hm9 hm8 hf8
                unfold yun
                rw [q2]
                exact this
              refine wv_iload_n dX8_operand_53 rfl ?_
              refine wv_if_ne (tgt := 62) dX8_operand_54 (by decide) (fun h54 => absurd (rfl : (0 : Int32) = 0) h54) (fun h54 => ?_)
              refine wv_iload dX8_operand_57 rfl ?_
              refine wv_if_eq (tgt := 98) dX8_operand_59 (by decide) (fun h59 => absurd h59 (by decide)) (fun h59 => ?_)
              refine wv_iload dX8_operand_62 rfl ?_
              refine wv_if_eq (tgt := 76) dX8_operand_64 (by decide) (fun h64 => absurd h64 (by decide)) (fun h64 => ?_)
              refine wv_aload_n dX8_operand_67 rfl ?_
              refine wv_getI fX8_260 dX8_operand_68 rfl (by first | assumption | rfl) ?_
              refine wv_bipush (v := 30) dX8_operand_71 (by decide) ?_
              refine wv_icmp_eq (tgt := 98) dX8_operand_73 (by decide) (fun h73 => absurd h73 n30) (fun h73 => ?_)
              refine wv_iload_n dX8_operand_76 rfl ?_
              refine wv_if_ne (tgt := 89) dX8_operand_77 (by decide) (fun h77 => absurd (rfl : (0 : Int32) = 0) h77) (fun h77 => ?_)
              refine wv_aload_n dX8_operand_80 rfl ?_
              refine wv_getI fX8_187 dX8_operand_81 rfl (by first | assumption | rfl) ?_
              refine wv_bipush (v := 40) dX8_operand_84 (by decide) ?_
              refine wv_icmp_ne (tgt := 103) dX8_operand_86 (by decide) (fun h86 => ?_) (fun h86 => absurd h86 n40)
              refine wv_aload_n dX8_operand_103 rfl ?_
              refine wv_getI fX8_200 dX8_operand_104 rfl (by first | assumption | rfl) ?_
              refine wv_if_le (tgt := 112) dX8_operand_107 (by decide) (fun h107 => ?_) (fun h107 => absurd (by rw [h0]; exact Int32.le_refl _) h107)
              refine wv_iload_n dX8_operand_112 rfl ?_
              refine wv_if_eq (tgt := 128) dX8_operand_113 (by decide) (fun h113 => ?_) (fun h113 => absurd rfl h113)
              refine wv_aload_n dX8_operand_128 rfl ?_
              refine wv_dup dX8_operand_129 rfl ?_
              refine wv_getI fX8_260 dX8_operand_130 rfl (by first | assumption | rfl) ?_
              refine wv_iconst (v := 1) dX8_operand_133 (by decide) ?_
              refine wv_iadd dX8_operand_134 ?_
              rw [h4, nI_1]
              refine wv_putI fX8_260 dX8_operand_135 rfl rfl rfl rfl (by first | assumption | rfl) ?_
              refine wv_aload_n dX8_operand_138 rfl ?_
              refine wv_getI fX8_187 dX8_operand_139 rfl (by first | assumption | rfl) ?_
              refine wv_bipush (v := 40) dX8_operand_142 (by decide) ?_
              refine wv_icmp_ne (tgt := 159) dX8_operand_144 (by decide) (fun h144 => ?_) (fun h144 => absurd h144 (by simp only [wr_uI]; rw [if_neg (by omega)]; exact n40))
              refine wv_aload_n dX8_operand_159 rfl ?_
              refine wv_iload_n dX8_operand_160 rfl ?_
              refine wv_if_ge (tgt := 168) dX8_operand_161 (by decide) (fun h161 => ?_) (fun h161 => ?_)
              · have e161 : knI T s.1 = nI (whN q) := q4 (Int32.not_lt.mpr h161)
                refine wv_iload_n dX8_operand_168 rfl ?_
                exact wv_le (by simp [wr_leq, wr_s1, wr_s2, wr_wide]) (gN _ e161)
              · have e161 : (0 : Int32) = nI (whN q) := by rw [q3 (Int32.not_le.mp h161)]; rfl
                refine wv_iconst (v := 0) dX8_operand_164 (by decide) ?_
                refine wv_goto (tgt := 169) dX8_operand_165 (by decide) ?_
                exact wv_le (by simp [wr_leq, wr_s1, wr_s2, wr_wide]) (gN _ e161)
        refine wv_aload_n dX8_operand_20 rfl ?_
        refine wv_v0e oX8_known kX8_257 dX8_operand_21 (by omega) (by first | assumption | rfl) ⟨rfl, by decide⟩ (Nat.le_of_ble_eq_true rfl) (Nat.le_of_ble_eq_true rfl) (x_known T s.1 m1.1 m1.2.1) ?_
        refine wv_istore_k (i := 3) dX8_operand_24 rfl (by decide) ?_
        refine wv_aload_n dX8_operand_25 rfl ?_
        refine wv_getI fX8_187 dX8_operand_26 rfl (by first | assumption | rfl) ?_
        refine wv_iconst (v := 2) dX8_operand_29 (by decide) ?_
        refine wv_icmp_eq (tgt := 46) dX8_operand_30 (by decide) (fun h30 => ?_) (fun h30 => ?_)
        · refine wv_iconst (v := 1) dX8_operand_46 (by decide) ?_
          refine wv_goto (tgt := 51) dX8_operand_47 (by decide) ?_
          refine wv_istore dX8_operand_51 (by decide) ?_
          exact wv_le (by simp [wr_leq, wr_s1, wr_s2, wr_wide]) g53
        · refine wv_aload_n dX8_operand_33 rfl ?_
          refine wv_getI fX8_187 dX8_operand_34 rfl (by first | assumption | rfl) ?_
          refine wv_bipush (v := 40) dX8_operand_37 (by decide) ?_
          refine wv_icmp_eq (tgt := 46) dX8_operand_39 (by decide) (fun h39 => ?_) (fun h39 => ?_)
          · refine wv_iconst (v := 1) dX8_operand_46 (by decide) ?_
            refine wv_goto (tgt := 51) dX8_operand_47 (by decide) ?_
            refine wv_istore dX8_operand_51 (by decide) ?_
            exact wv_le (by simp [wr_leq, wr_s1, wr_s2, wr_wide]) g53
          · refine wv_iload_n dX8_operand_42 rfl ?_
            refine wv_if_lt (tgt := 50) dX8_operand_43 (by decide) (fun h43 => absurd h43 (hkn h30 h39)) (fun h43 => ?_)
            refine wv_iconst (v := 1) dX8_operand_46 (by decide) ?_
            refine wv_goto (tgt := 51) dX8_operand_47 (by decide) ?_
            refine wv_istore dX8_operand_51 (by decide) ?_
            exact wv_le (by simp [wr_leq, wr_s1, wr_s2, wr_wide]) g53
      · have n2 : ¬ s.1.1 = 2 := fun z => hun (.inl z)
        have n40 : ¬ isS T s.1 40 = true := fun z => hun (.inr (.inl z))
        have nlk : lkH T s.1 = -1 := Decidable.byContradiction (fun z => hun (.inr (.inr z)))
        have ekn : knI T s.1 = -1 := by
          rcases kn_lk (T := T) (k := s.1) with ⟨e1, e2⟩ | ⟨j, hj, e1, e2, e3⟩
          · exact e2
          · rw [e1] at nlk; exact absurd nlk (nI_nm (by omega))
        have ey : yopd T s W now = yrf s := by
          unfold yopd
          rw [if_neg hw]
          by_cases z : 30 ≤ s.2.2
          · rw [if_pos z]
          · rw [if_neg z, if_neg n40, if_pos ⟨n2, nlk⟩]
        rw [ey]
        refine wv_aload_n dX8_operand_20 rfl ?_
        refine wv_v0e oX8_known kX8_257 dX8_operand_21 (by omega) (by first | assumption | rfl) ⟨rfl, by decide⟩ (Nat.le_of_ble_eq_true rfl) (Nat.le_of_ble_eq_true rfl) (x_known T s.1 m1.1 m1.2.1) ?_
        refine wv_istore_k (i := 3) dX8_operand_24 rfl (by decide) ?_
        refine wv_aload_n dX8_operand_25 rfl ?_
        refine wv_getI fX8_187 dX8_operand_26 rfl (by first | assumption | rfl) ?_
        refine wv_iconst (v := 2) dX8_operand_29 (by decide) ?_
        refine wv_icmp_eq (tgt := 46) dX8_operand_30 (by decide) (fun h30 => absurd h30 (fun z => n2 (s2.mp z))) (fun h30 => ?_)
        refine wv_aload_n dX8_operand_33 rfl ?_
        refine wv_getI fX8_187 dX8_operand_34 rfl (by first | assumption | rfl) ?_
        refine wv_bipush (v := 40) dX8_operand_37 (by decide) ?_
        refine wv_icmp_eq (tgt := 46) dX8_operand_39 (by decide) (fun h39 => absurd h39 (fun z => n40 (s40.mp z))) (fun h39 => ?_)
        refine wv_iload_n dX8_operand_42 rfl ?_
        refine wv_if_lt (tgt := 50) dX8_operand_43 (by decide) (fun h43 => ?_) (fun h43 => absurd (by rw [ekn]; decide) h43)
        refine wv_iconst (v := 0) dX8_operand_50 (by decide) ?_
        refine wv_istore dX8_operand_51 (by decide) ?_
        refine wv_iload_n dX8_operand_53 rfl ?_
        refine wv_if_ne (tgt := 62) dX8_operand_54 (by decide) (fun h54 => absurd (rfl : (0 : Int32) = 0) h54) (fun h54 => ?_)
        refine wv_iload dX8_operand_57 rfl ?_
        refine wv_if_eq (tgt := 98) dX8_operand_59 (by decide) (fun h59 => ?_) (fun h59 => absurd rfl h59)
        exact wv_le (by simp [wr_leq, wr_s1, wr_s2, wr_wide]) (g98 0 (knI T s.1) 0)
    refine wv_pad 3 ?_
    show wr_V l 2 mX8_operand 0 [some (.ref 55), some (.int (nI now)), none, none, none] [] SH I L R 0 0 _
    refine wv_iload_n dX8_operand_0 rfl ?_
    refine wv_if_ne (tgt := 18) dX8_operand_1 (by decide) (fun h1 => ?_) (fun h1 => ?_)
    · refine wv_iconst (v := 0) dX8_operand_18 (by decide) ?_
      refine wv_istore_k (i := 2) dX8_operand_19 rfl (by decide) ?_
      exact wv_le (by simp [wr_leq, wr_s1, wr_s2, wr_wide]) g20
    · have e0 : now = 0 := by
        by_cases z : now = 0
        · exact z
        · exact absurd (show nI now = 0 from by assumption) (nI_ne0 (by omega) (by omega))
      refine wv_aload_n dX8_operand_4 rfl ?_
      refine wv_ldc2_w nX8_255 dX8_operand_5 ?_
      refine wv_v1e oX8_isWord kX8_203 dX8_operand_8 (by omega) (by first | assumption | rfl) ⟨rfl, by decide⟩ (Nat.le_of_ble_eq_true rfl) (Nat.le_of_ble_eq_true rfl) (x_isWord T s.1 m1.1 m1.2.1 13 (by decide) _ (by decide +kernel)) ?_
      refine wv_if_eq (tgt := 18) dX8_operand_11 (by decide) (fun h11 => ?_) (fun h11 => absurd (if_neg (fun z => hw ⟨e0, z⟩)) h11)
      refine wv_iconst (v := 0) dX8_operand_18 (by decide) ?_
      refine wv_istore_k (i := 2) dX8_operand_19 rfl (by decide) ?_
      exact wv_le (by simp [wr_leq, wr_s1, wr_s2, wr_wide]) g20

