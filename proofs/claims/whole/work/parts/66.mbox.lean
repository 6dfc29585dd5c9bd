/-! the model: images, seed, about -/
def mBx (I : wr_TI) (b : Nat) (B : FS) : Prop := (∀ s, s < 40 → I 94 (40 * b + s) = B.1.1 s) ∧ (∀ s, s < 40 → I 95 (40 * b + s) = B.1.2.1 s) ∧ (∀ k, k < 3 → I 96 (3 * b + k) = B.2.1 k) ∧ I 97 b = B.1.2.2.1 ∧ I 98 b = B.1.2.2.2 ∧ I 99 b = B.2.2
theorem i3 (r i : Nat) : (3 : Int32) * nI r + nI i = nI (3 * r + i) := by rw [← nI_add]; congr 1; exact (Int32.ofNat_mul 3 r).symm
def frI8 (I I' : wr_TI) : Prop := ∀ a, a < 93 ∨ 99 < a → I' a = I a
def imI (I : wr_TI) (b i : Nat) : wr_TI := fun a d => if a = 94 ∧ 40 * b ≤ d ∧ d < 40 * b + i then I 75 (d - 40 * b) else if a = 95 ∧ 40 * b ≤ d ∧ d < 40 * b + i then I 76 (d - 40 * b) else if a = 93 ∧ d = b then 1 else I a d
def imI2 (I : wr_TI) (b i : Nat) : wr_TI := fun a d => if a = 96 ∧ 3 * b ≤ d ∧ d < 3 * b + i then I 80 (d - 3 * b) else imI I b 40 a d
def bkI (I : wr_TI) (b i : Nat) : wr_TI := fun a d => if a = 75 ∧ d < i then I 94 (40 * b + d) else if a = 76 ∧ d < i then I 95 (40 * b + d) else I a d
def bkI2 (I : wr_TI) (b i : Nat) : wr_TI := fun a d => if a = 80 ∧ d < i then I 96 (3 * b + d) else bkI I b 40 a d
set_option maxHeartbeats 4000000 in
set_option maxRecDepth 100000 in
theorem x_isBox {l : Launch} {I : wr_TI} {L : wr_TL} {R : wr_TR} (x : Int32) : wr_E l 0 mX8_isBox [.int x] SH I L R (some (.int (if 0 ≤ x ∧ x < 3 then 1 else 0))) I L R := by
  refine wv_pad 0 ?_
  show wr_V l 0 mX8_isBox 0 [some (.int x)] [] SH I L R 0 0 _
  refine wv_iload_n dX8_isBox_0 rfl ?_
  refine wv_if_lt (tgt := 13) dX8_isBox_1 (by decide) (fun h1 => ?_) (fun h1 => ?_)
  · refine wv_iconst (v := 0) dX8_isBox_13 (by decide) ?_
    refine wv_zret rfl rfl dX8_isBox_14 ?_
    refine ⟨?_, rfl, rfl, rfl, rfl⟩
    first | (rw [if_pos (by grind)]; done) | (rw [if_neg (by grind)]; done)
  · refine wv_iload_n dX8_isBox_4 rfl ?_
    refine wv_iconst (v := 3) dX8_isBox_5 (by decide) ?_
    refine wv_icmp_ge (tgt := 13) dX8_isBox_6 (by decide) (fun h6 => ?_) (fun h6 => ?_)
    · refine wv_iconst (v := 0) dX8_isBox_13 (by decide) ?_
      refine wv_zret rfl rfl dX8_isBox_14 ?_
      refine ⟨?_, rfl, rfl, rfl, rfl⟩
      first | (rw [if_pos (by grind)]; done) | (rw [if_neg (by grind)]; done)
    · refine wv_iconst (v := 1) dX8_isBox_9 (by decide) ?_
      refine wv_goto (tgt := 14) dX8_isBox_10 (by decide) ?_
      refine wv_zret rfl rfl dX8_isBox_14 ?_
      refine ⟨?_, rfl, rfl, rfl, rfl⟩
      first | (rw [if_pos (by grind)]; done) | (rw [if_neg (by grind)]; done)

set_option maxHeartbeats 4000000 in
set_option maxRecDepth 100000 in
theorem xW_image {l : Launch} {I : wr_TI} {L : wr_TL} {R : wr_TR} (hR : wr_RC R) (F : FS) (hF : mcF I F) (x : Int32) : wr_P l 1 mX8_image [.ref 55, .int x] SH I L R (fun v s' I' L' R' => s' = SH ∧ L' = L ∧ R' = R ∧ (¬ (0 ≤ x ∧ x < 3) → v = some (.int (-1)) ∧ I' = I) ∧ ∀ b, b < 3 → x = nI b → v = some (.int (F.1.2.2.1)) ∧ mBx I' b F ∧ I' 93 b = 1 ∧ (∀ c B, c ≠ b → mBx I c B → mBx I' c B) ∧ (∀ c, c ≠ b → I' 93 c = I 93 c) ∧ frI8 I I') := by
  have core : ∀ b, b < 3 → wr_V l 1 mX8_image 18 [some (.ref 55), some (.int (nI b)), some (.int (nI 0))] [] SH (imI I b 0) L R 0 0 (fun v s' I' L' R' => s' = SH ∧ L' = L ∧ R' = R ∧ v = some (.int (F.1.2.2.1)) ∧ mBx I' b F ∧ I' 93 b = 1 ∧ (∀ c B, c ≠ b → mBx I c B → mBx I' c B) ∧ (∀ c, c ≠ b → I' 93 c = I 93 c) ∧ frI8 I I') := by
    intro b hb
    have l2 : ∀ (k i : Nat), i + k = 3 → wr_V l 1 mX8_image 66 [some (.ref 55), some (.int (nI b)), some (.int (nI i))] [] SH (imI2 I b i) L R 0 0 (fun v s' I' L' R' => s' = SH ∧ L' = L ∧ R' = R ∧ v = some (.int (F.1.2.2.1)) ∧ mBx I' b F ∧ I' 93 b = 1 ∧ (∀ c B, c ≠ b → mBx I c B → mBx I' c B) ∧ (∀ c, c ≠ b → I' 93 c = I 93 c) ∧ frI8 I I') := by
      intro k
      induction k with
      | zero =>
        intro i hi
        obtain rfl : i = 3 := by omega
        refine wv_iload_n dX8_image_66 rfl ?_
        refine wv_iconst (v := 3) dX8_image_67 (by decide) ?_
        refine wv_icmp_ge (tgt := 93) dX8_image_68 (by decide) (fun h68 => ?_) (fun h68 => absurd (nI_le (a := 3) (by omega) (by omega)) h68)
        refine wv_aload_n dX8_image_93 rfl ?_
        refine wv_getR fX8_142 dX8_image_94 rfl (by first | assumption | rfl) (by first | exact hR _ _ _ rfl | assumption) ?_
        refine wv_iload_n dX8_image_97 rfl ?_
        refine wv_aload_n dX8_image_98 rfl ?_
        refine wv_getI fX8_381 dX8_image_99 rfl (by first | assumption | rfl) ?_
        refine wv_iastN dX8_image_102 (by first | assumption | rfl) hb (by decide) ?_
        refine wv_aload_n dX8_image_103 rfl ?_
        refine wv_getR fX8_145 dX8_image_104 rfl (by first | assumption | rfl) (by first | exact hR _ _ _ rfl | assumption) ?_
        refine wv_iload_n dX8_image_107 rfl ?_
        refine wv_aload_n dX8_image_108 rfl ?_
        refine wv_getI fX8_384 dX8_image_109 rfl (by first | assumption | rfl) ?_
        refine wv_iastN dX8_image_112 (by first | assumption | rfl) hb (by decide) ?_
        refine wv_aload_n dX8_image_113 rfl ?_
        refine wv_getR fX8_148 dX8_image_114 rfl (by first | assumption | rfl) (by first | exact hR _ _ _ rfl | assumption) ?_
        refine wv_iload_n dX8_image_117 rfl ?_
        refine wv_aload_n dX8_image_118 rfl ?_
        refine wv_getI fX8_96 dX8_image_119 rfl (by first | assumption | rfl) ?_
        refine wv_iastN dX8_image_122 (by first | assumption | rfl) hb (by decide) ?_
        refine wv_aload_n dX8_image_123 rfl ?_
        refine wv_getI fX8_381 dX8_image_124 rfl (by first | assumption | rfl) ?_
        refine wv_iret rfl dX8_image_127 ?_
        have e57 : I 55 57 = F.1.2.2.1 := hF.1.2.2.1
        have e58 : I 55 58 = F.1.2.2.2 := hF.1.2.2.2
        have e59 : I 55 59 = F.2.2 := hF.2.2
        refine ⟨rfl, rfl, rfl, ?_, ⟨fun s hs => ?_, fun s hs => ?_, fun k hk => ?_, ?_, ?_, ?_⟩, ?_, fun c B hc hB => ⟨fun s hs => ?_, fun s hs => ?_, fun k hk => ?_, ?_, ?_, ?_⟩, fun c hc => ?_, fun a ha => ?_⟩
        · simp [wr_uI, imI2, imI, e57]
        · have := hF.1.1 s hs
          simp [wr_uI, imI2, imI, hs, this]
        · have := hF.1.2.1 s hs
          simp [wr_uI, imI2, imI, hs, this]
        · have := hF.2.1 k hk
          simp [wr_uI, imI2, imI, hk, this]
        · simp [wr_uI, imI2, imI, e57]
        · simp [wr_uI, imI2, imI, e58]
        · simp [wr_uI, imI2, imI, e59]
        · simp [wr_uI, imI2, imI]
        · have := hB.1 s hs
          have h1 : ¬ (40 * b ≤ 40 * c + s ∧ 40 * c + s < 40 * b + 40) := by omega
          simp [wr_uI, imI2, imI, h1, this]
        · have := hB.2.1 s hs
          have h1 : ¬ (40 * b ≤ 40 * c + s ∧ 40 * c + s < 40 * b + 40) := by omega
          simp [wr_uI, imI2, imI, h1, this]
        · have := hB.2.2.1 k hk
          have h1 : ¬ (3 * b ≤ 3 * c + k ∧ 3 * c + k < 3 * b + 3) := by omega
          simp [wr_uI, imI2, imI, h1, this]
        · have := hB.2.2.2.1
          simp [wr_uI, imI2, imI, hc, this]
        · have := hB.2.2.2.2.1
          simp [wr_uI, imI2, imI, hc, this]
        · have := hB.2.2.2.2.2
          simp [wr_uI, imI2, imI, hc, this]
        · simp [wr_uI, imI2, imI, hc]
        · funext d
          have n1 : ¬ a = 93 := by omega
          have n2 : ¬ a = 94 := by omega
          have n3 : ¬ a = 95 := by omega
          have n4 : ¬ a = 96 := by omega
          have n5 : ¬ a = 97 := by omega
          have n6 : ¬ a = 98 := by omega
          have n7 : ¬ a = 99 := by omega
          simp [wr_uI, imI2, imI, n1, n2, n3, n4, n5, n6, n7]
      | succ k ih =>
        intro i hi
        refine wv_iload_n dX8_image_66 rfl ?_
        refine wv_iconst (v := 3) dX8_image_67 (by decide) ?_
        refine wv_icmp_ge (tgt := 93) dX8_image_68 (by decide) (fun h68 => absurd h68 (nI_ge (b := 3) (by omega) (by omega))) (fun h68 => ?_)
        refine wv_aload_n dX8_image_71 rfl ?_
        refine wv_getR fX8_139 dX8_image_72 rfl (by first | assumption | rfl) (by first | exact hR _ _ _ rfl | assumption) ?_
        refine wv_iconst (v := 3) dX8_image_75 (by decide) ?_
        refine wv_iload_n dX8_image_76 rfl ?_
        refine wv_imul dX8_image_77 ?_
        refine wv_iload_n dX8_image_78 rfl ?_
        refine wv_iadd dX8_image_79 ?_
        rw [i3]
        refine wv_aload_n dX8_image_80 rfl ?_
        refine wv_getR fX8_87 dX8_image_81 rfl (by first | assumption | rfl) (by first | exact hR _ _ _ rfl | assumption) ?_
        refine wv_iload_n dX8_image_84 rfl ?_
        refine wv_ialdN dX8_image_85 (by first | assumption | rfl) (by omega) (by decide) ?_
        refine wv_iastN dX8_image_86 (by first | assumption | rfl) (by omega) (by decide) ?_
        refine wv_iinc (v := nI (i + 1)) dX8_image_87 rfl (nI_1 (i)) (by decide) ?_
        refine wv_goto (tgt := 66) dX8_image_90 (by decide) ?_
        have e : ∀ a d, wr_uI (imI2 I b i) 96 (3 * b + i) (imI2 I b i 80 i) a d = imI2 I b (i + 1) a d := fun a d => by
          simp only [imI2, imI, wr_uI]
          grind
        exact wv_le (by simp [wr_leq, wr_s1, wr_s2, wr_wide]) (wv_I e (ih (i + 1) (by omega)))
    have l1 : ∀ (k i : Nat), i + k = 40 → wr_V l 1 mX8_image 18 [some (.ref 55), some (.int (nI b)), some (.int (nI i))] [] SH (imI I b i) L R 0 0 (fun v s' I' L' R' => s' = SH ∧ L' = L ∧ R' = R ∧ v = some (.int (F.1.2.2.1)) ∧ mBx I' b F ∧ I' 93 b = 1 ∧ (∀ c B, c ≠ b → mBx I c B → mBx I' c B) ∧ (∀ c, c ≠ b → I' 93 c = I 93 c) ∧ frI8 I I') := by
      intro k
      induction k with
      | zero =>
        intro i hi
        obtain rfl : i = 40 := by omega
        refine wv_iload_n dX8_image_18 rfl ?_
        refine wv_bipush (v := 40) dX8_image_19 (by decide) ?_
        refine wv_icmp_ge (tgt := 64) dX8_image_21 (by decide) (fun h21 => ?_) (fun h21 => absurd (nI_le (a := 40) (by omega) (by omega)) h21)
        refine wv_iconst (v := nI 0) dX8_image_64 rfl ?_
        refine wv_istore_k (i := 2) dX8_image_65 rfl (by decide) ?_
        have e : ∀ a d, imI I b 40 a d = imI2 I b 0 a d := fun a d => by
          simp only [imI2]
          rw [if_neg (by omega)]
        exact wv_le (by simp [wr_leq, wr_s1, wr_s2, wr_wide]) (wv_I e (l2 3 0 (by omega)))
      | succ k ih =>
        intro i hi
        refine wv_iload_n dX8_image_18 rfl ?_
        refine wv_bipush (v := 40) dX8_image_19 (by decide) ?_
        refine wv_icmp_ge (tgt := 64) dX8_image_21 (by decide) (fun h21 => absurd h21 (nI_ge (b := 40) (by omega) (by omega))) (fun h21 => ?_)
        refine wv_aload_n dX8_image_24 rfl ?_
        refine wv_getR fX8_133 dX8_image_25 rfl (by first | assumption | rfl) (by first | exact hR _ _ _ rfl | assumption) ?_
        refine wv_bipush (v := 40) dX8_image_28 (by decide) ?_
        refine wv_iload_n dX8_image_30 rfl ?_
        refine wv_imul dX8_image_31 ?_
        refine wv_iload_n dX8_image_32 rfl ?_
        refine wv_iadd dX8_image_33 ?_
        rw [i40]
        refine wv_aload_n dX8_image_34 rfl ?_
        refine wv_getR fX8_72 dX8_image_35 rfl (by first | assumption | rfl) (by first | exact hR _ _ _ rfl | assumption) ?_
        refine wv_iload_n dX8_image_38 rfl ?_
        refine wv_ialdN dX8_image_39 (by first | assumption | rfl) (by omega) (by decide) ?_
        refine wv_iastN dX8_image_40 (by first | assumption | rfl) (by omega) (by decide) ?_
        refine wv_aload_n dX8_image_41 rfl ?_
        refine wv_getR fX8_136 dX8_image_42 rfl (by first | assumption | rfl) (by first | exact hR _ _ _ rfl | assumption) ?_
        refine wv_bipush (v := 40) dX8_image_45 (by decide) ?_
        refine wv_iload_n dX8_image_47 rfl ?_
        refine wv_imul dX8_image_48 ?_
        refine wv_iload_n dX8_image_49 rfl ?_
        refine wv_iadd dX8_image_50 ?_
        rw [i40]
        refine wv_aload_n dX8_image_51 rfl ?_
        refine wv_getR fX8_75 dX8_image_52 rfl (by first | assumption | rfl) (by first | exact hR _ _ _ rfl | assumption) ?_
        refine wv_iload_n dX8_image_55 rfl ?_
        refine wv_ialdN dX8_image_56 (by first | assumption | rfl) (by omega) (by decide) ?_
        refine wv_iastN dX8_image_57 (by first | assumption | rfl) (by omega) (by decide) ?_
        refine wv_iinc (v := nI (i + 1)) dX8_image_58 rfl (nI_1 (i)) (by decide) ?_
        refine wv_goto (tgt := 18) dX8_image_61 (by decide) ?_
        have e : ∀ a d, wr_uI (wr_uI (imI I b i) 94 (40 * b + i) (imI I b i 75 i)) 95 (40 * b + i) (wr_uI (imI I b i) 94 (40 * b + i) (imI I b i 75 i) 76 i) a d = imI I b (i + 1) a d := fun a d => by
          simp only [imI, wr_uI]
          clear ih l2 hF
          grind (splits := 25)
        exact wv_le (by simp [wr_leq, wr_s1, wr_s2, wr_wide]) (wv_I e (ih (i + 1) (by omega)))
    exact l1 40 0 (by omega)
  refine wv_pad 1 ?_
  show wr_V l 1 mX8_image 0 [some (.ref 55), some (.int x), none] [] SH I L R 0 0 _
  refine wv_iload_n dX8_image_0 rfl ?_
  refine wv_s1e oX8_isBox kX8_503 dX8_image_1 (by omega) (Nat.le_of_ble_eq_true rfl) (Nat.le_of_ble_eq_true rfl) (x_isBox _) ?_
  refine wv_if_ne (tgt := 9) dX8_image_4 (by decide) (fun h4 => ?_) (fun h4 => ?_)
  · rw [if10] at h4
    obtain ⟨b, hb, rfl⟩ := ix_of (n := 3) (Decidable.not_not.mp h4) (by omega)
    refine wv_aload_n dX8_image_9 rfl ?_
    refine wv_getR fX8_130 dX8_image_10 rfl (by first | assumption | rfl) (by first | exact hR _ _ _ rfl | assumption) ?_
    refine wv_iload_n dX8_image_13 rfl ?_
    refine wv_iconst (v := 1) dX8_image_14 (by decide) ?_
    refine wv_zastN dX8_image_15 (by first | assumption | rfl) hb (by decide) ?_
    refine wv_iconst (v := nI 0) dX8_image_16 rfl ?_
    refine wv_istore_k (i := 2) dX8_image_17 rfl (by decide) ?_
    have e : ∀ a d, wr_uI I 93 b (vp_nar .boolean 1) a d = imI I b 0 a d := fun a d => by
      rw [nar1]
      simp only [imI, wr_uI]
      grind
    refine wr_V.imp (wv_le (by simp [wr_leq, wr_s1, wr_s2, wr_wide]) (wv_I e (core b hb))) (fun v s' I' L' R' h => ?_)
    obtain ⟨q1, q2, q3, q4⟩ := h
    refine ⟨q1, q2, q3, fun q => absurd ⟨nI_pos' (by omega), nI_lt (b := 3) hb (by omega)⟩ q, fun c hc hcb => ?_⟩
    obtain rfl : b = c := (nI_eq (by omega) (by omega)).mp hcb
    exact q4
  · rw [if10] at h4
    refine wv_iconst (v := (-1)) dX8_image_7 (by decide) ?_
    refine wv_iret rfl dX8_image_8 ?_
    refine ⟨rfl, rfl, rfl, fun _ => ⟨rfl, rfl⟩, fun b hb hx => absurd (by rw [hx]; exact ⟨nI_pos' (by omega), nI_lt (b := 3) hb (by omega)⟩) h4⟩

set_option maxHeartbeats 4000000 in
set_option maxRecDepth 100000 in
theorem xW_back {l : Launch} {I : wr_TI} {L : wr_TL} {R : wr_TR} (hR : wr_RC R) (x : Int32) : wr_P l 1 mX8_back [.ref 55, .int x] SH I L R (fun v s' I' L' R' => s' = SH ∧ L' = L ∧ R' = R ∧ (¬ (0 ≤ x ∧ x < 3) → v = some (.int (-1)) ∧ I' = I) ∧ ∀ b, b < 3 → x = nI b → (I 93 b = 0 → v = some (.int (-1)) ∧ I' = I) ∧ (¬ I 93 b = 0 → ∀ B, mBx I b B → v = some (.int (B.1.2.2.1)) ∧ mcF I' B ∧ frS I I')) := by
  have core : ∀ b, b < 3 → ∀ B, mBx I b B → wr_V l 1 mX8_back 20 [some (.ref 55), some (.int (nI b)), some (.int (nI 0))] [] SH (bkI I b 0) L R 0 0 (fun v s' I' L' R' => s' = SH ∧ L' = L ∧ R' = R ∧ v = some (.int (B.1.2.2.1)) ∧ mcF I' B ∧ frS I I') := by
    intro b hb B hB
    obtain ⟨hB1, hB2, hB3, hB4, hB5, hB6⟩ := hB
    have l2 : ∀ (k i : Nat), i + k = 3 → wr_V l 1 mX8_back 68 [some (.ref 55), some (.int (nI b)), some (.int (nI i))] [] SH (bkI2 I b i) L R 0 0 (fun v s' I' L' R' => s' = SH ∧ L' = L ∧ R' = R ∧ v = some (.int (B.1.2.2.1)) ∧ mcF I' B ∧ frS I I') := by
      intro k
      induction k with
      | zero =>
        intro i hi
        obtain rfl : i = 3 := by omega
        refine wv_iload_n dX8_back_68 rfl ?_
        refine wv_iconst (v := 3) dX8_back_69 (by decide) ?_
        refine wv_icmp_ge (tgt := 95) dX8_back_70 (by decide) (fun h70 => ?_) (fun h70 => absurd (nI_le (a := 3) (by omega) (by omega)) h70)
        refine wv_aload_n dX8_back_95 rfl ?_
        refine wv_aload_n dX8_back_96 rfl ?_
        refine wv_getR fX8_142 dX8_back_97 rfl (by first | assumption | rfl) (by first | exact hR _ _ _ rfl | assumption) ?_
        refine wv_iload_n dX8_back_100 rfl ?_
        refine wv_ialdN dX8_back_101 (by first | assumption | rfl) hb (by decide) ?_
        refine wv_putI fX8_381 dX8_back_102 rfl rfl rfl rfl (by first | assumption | rfl) ?_
        refine wv_aload_n dX8_back_105 rfl ?_
        refine wv_aload_n dX8_back_106 rfl ?_
        refine wv_getR fX8_145 dX8_back_107 rfl (by first | assumption | rfl) (by first | exact hR _ _ _ rfl | assumption) ?_
        refine wv_iload_n dX8_back_110 rfl ?_
        refine wv_ialdN dX8_back_111 (by first | assumption | rfl) hb (by decide) ?_
        refine wv_putI fX8_384 dX8_back_112 rfl rfl rfl rfl (by first | assumption | rfl) ?_
        refine wv_aload_n dX8_back_115 rfl ?_
        refine wv_aload_n dX8_back_116 rfl ?_
        refine wv_getR fX8_148 dX8_back_117 rfl (by first | assumption | rfl) (by first | exact hR _ _ _ rfl | assumption) ?_
        refine wv_iload_n dX8_back_120 rfl ?_
        refine wv_ialdN dX8_back_121 (by first | assumption | rfl) hb (by decide) ?_
        refine wv_putI fX8_96 dX8_back_122 rfl rfl rfl rfl (by first | assumption | rfl) ?_
        refine wv_aload_n dX8_back_125 rfl ?_
        refine wv_getI fX8_381 dX8_back_126 rfl (by first | assumption | rfl) ?_
        refine wv_iret rfl dX8_back_129 ?_
        refine ⟨rfl, rfl, rfl, ?_, ⟨⟨fun s hs => ?_, fun s hs => ?_, ?_, ?_⟩, fun k hk => ?_, ?_⟩, fun a b1 b2 => ?_, fun k hk => ?_⟩
        · simp [wr_uI, bkI2, bkI, hB4]
        · simp [wr_uI, bkI2, bkI, hs, hB1 s hs]
        · simp [wr_uI, bkI2, bkI, hs, hB2 s hs]
        · simp [wr_uI, bkI2, bkI, hB4]
        · simp [wr_uI, bkI2, bkI, hB5]
        · simp [wr_uI, bkI2, bkI, hk, hB3 k hk]
        · simp [wr_uI, bkI2, bkI, hB6]
        · funext d
          have n1 : ¬ a = 75 := by omega
          have n2 : ¬ a = 76 := by omega
          have n3 : ¬ a = 80 := by omega
          simp [wr_uI, bkI2, bkI, b1, n1, n2, n3]
        · have n1 : ¬ k = 57 := by omega
          have n2 : ¬ k = 58 := by omega
          have n3 : ¬ k = 59 := by omega
          simp [wr_uI, bkI2, bkI, n1, n2, n3]
      | succ k ih =>
        intro i hi
        refine wv_iload_n dX8_back_68 rfl ?_
        refine wv_iconst (v := 3) dX8_back_69 (by decide) ?_
        refine wv_icmp_ge (tgt := 95) dX8_back_70 (by decide) (fun h70 => absurd h70 (nI_ge (b := 3) (by omega) (by omega))) (fun h70 => ?_)
        refine wv_aload_n dX8_back_73 rfl ?_
        refine wv_getR fX8_87 dX8_back_74 rfl (by first | assumption | rfl) (by first | exact hR _ _ _ rfl | assumption) ?_
        refine wv_iload_n dX8_back_77 rfl ?_
        refine wv_aload_n dX8_back_78 rfl ?_
        refine wv_getR fX8_139 dX8_back_79 rfl (by first | assumption | rfl) (by first | exact hR _ _ _ rfl | assumption) ?_
        refine wv_iconst (v := 3) dX8_back_82 (by decide) ?_
        refine wv_iload_n dX8_back_83 rfl ?_
        refine wv_imul dX8_back_84 ?_
        refine wv_iload_n dX8_back_85 rfl ?_
        refine wv_iadd dX8_back_86 ?_
        rw [i3]
        refine wv_ialdN dX8_back_87 (by first | assumption | rfl) (by omega) (by decide) ?_
        refine wv_iastN dX8_back_88 (by first | assumption | rfl) (by omega) (by decide) ?_
        refine wv_iinc (v := nI (i + 1)) dX8_back_89 rfl (nI_1 (i)) (by decide) ?_
        refine wv_goto (tgt := 68) dX8_back_92 (by decide) ?_
        have e : ∀ a d, wr_uI (bkI2 I b i) 80 i (bkI2 I b i 96 (3 * b + i)) a d = bkI2 I b (i + 1) a d := fun a d => by
          simp only [bkI2, bkI, wr_uI]
          grind
        exact wv_le (by simp [wr_leq, wr_s1, wr_s2, wr_wide]) (wv_I e (ih (i + 1) (by omega)))
    have l1 : ∀ (k i : Nat), i + k = 40 → wr_V l 1 mX8_back 20 [some (.ref 55), some (.int (nI b)), some (.int (nI i))] [] SH (bkI I b i) L R 0 0 (fun v s' I' L' R' => s' = SH ∧ L' = L ∧ R' = R ∧ v = some (.int (B.1.2.2.1)) ∧ mcF I' B ∧ frS I I') := by
      intro k
      induction k with
      | zero =>
        intro i hi
        obtain rfl : i = 40 := by omega
        refine wv_iload_n dX8_back_20 rfl ?_
        refine wv_bipush (v := 40) dX8_back_21 (by decide) ?_
        refine wv_icmp_ge (tgt := 66) dX8_back_23 (by decide) (fun h23 => ?_) (fun h23 => absurd (nI_le (a := 40) (by omega) (by omega)) h23)
        refine wv_iconst (v := nI 0) dX8_back_66 rfl ?_
        refine wv_istore_k (i := 2) dX8_back_67 rfl (by decide) ?_
        have e : ∀ a d, bkI I b 40 a d = bkI2 I b 0 a d := fun a d => by simp [bkI2]
        exact wv_le (by simp [wr_leq, wr_s1, wr_s2, wr_wide]) (wv_I e (l2 3 0 (by omega)))
      | succ k ih =>
        intro i hi
        refine wv_iload_n dX8_back_20 rfl ?_
        refine wv_bipush (v := 40) dX8_back_21 (by decide) ?_
        refine wv_icmp_ge (tgt := 66) dX8_back_23 (by decide) (fun h23 => absurd h23 (nI_ge (b := 40) (by omega) (by omega))) (fun h23 => ?_)
        refine wv_aload_n dX8_back_26 rfl ?_
        refine wv_getR fX8_72 dX8_back_27 rfl (by first | assumption | rfl) (by first | exact hR _ _ _ rfl | assumption) ?_
        refine wv_iload_n dX8_back_30 rfl ?_
        refine wv_aload_n dX8_back_31 rfl ?_
        refine wv_getR fX8_133 dX8_back_32 rfl (by first | assumption | rfl) (by first | exact hR _ _ _ rfl | assumption) ?_
        refine wv_bipush (v := 40) dX8_back_35 (by decide) ?_
        refine wv_iload_n dX8_back_37 rfl ?_
        refine wv_imul dX8_back_38 ?_
        refine wv_iload_n dX8_back_39 rfl ?_
        refine wv_iadd dX8_back_40 ?_
        rw [i40]
        refine wv_ialdN dX8_back_41 (by first | assumption | rfl) (by omega) (by decide) ?_
        refine wv_iastN dX8_back_42 (by first | assumption | rfl) (by omega) (by decide) ?_
        refine wv_aload_n dX8_back_43 rfl ?_
        refine wv_getR fX8_75 dX8_back_44 rfl (by first | assumption | rfl) (by first | exact hR _ _ _ rfl | assumption) ?_
        refine wv_iload_n dX8_back_47 rfl ?_
        refine wv_aload_n dX8_back_48 rfl ?_
        refine wv_getR fX8_136 dX8_back_49 rfl (by first | assumption | rfl) (by first | exact hR _ _ _ rfl | assumption) ?_
        refine wv_bipush (v := 40) dX8_back_52 (by decide) ?_
        refine wv_iload_n dX8_back_54 rfl ?_
        refine wv_imul dX8_back_55 ?_
        refine wv_iload_n dX8_back_56 rfl ?_
        refine wv_iadd dX8_back_57 ?_
        rw [i40]
        refine wv_ialdN dX8_back_58 (by first | assumption | rfl) (by omega) (by decide) ?_
        refine wv_iastN dX8_back_59 (by first | assumption | rfl) (by omega) (by decide) ?_
        refine wv_iinc (v := nI (i + 1)) dX8_back_60 rfl (nI_1 (i)) (by decide) ?_
        refine wv_goto (tgt := 20) dX8_back_63 (by decide) ?_
        have e : ∀ a d, wr_uI (wr_uI (bkI I b i) 75 i (bkI I b i 94 (40 * b + i))) 76 i (wr_uI (bkI I b i) 75 i (bkI I b i 94 (40 * b + i)) 95 (40 * b + i)) a d = bkI I b (i + 1) a d := fun a d => by
          simp only [bkI, wr_uI]
          grind
        exact wv_le (by simp [wr_leq, wr_s1, wr_s2, wr_wide]) (wv_I e (ih (i + 1) (by omega)))
    exact l1 40 0 (by omega)
  by_cases hx : 0 ≤ x ∧ x < 3
  · obtain ⟨b, hb, rfl⟩ := ix_of (n := 3) hx (by omega)
    by_cases h0 : I 93 b = 0
    · refine wv_pad 1 ?_
      show wr_V l 1 mX8_back 0 [some (.ref 55), some (.int (nI b)), none] [] SH I L R 0 0 _
      refine wv_iload_n dX8_back_0 rfl ?_
      refine wv_s1e oX8_isBox kX8_503 dX8_back_1 (by omega) (Nat.le_of_ble_eq_true rfl) (Nat.le_of_ble_eq_true rfl) (x_isBox _) ?_
      refine wv_if_eq (tgt := 16) dX8_back_4 (by decide) (fun h4 => absurd h4 (by rw [if_pos hx]; decide)) (fun h4 => ?_)
      refine wv_aload_n dX8_back_7 rfl ?_
      refine wv_getR fX8_130 dX8_back_8 rfl (by first | assumption | rfl) (by first | exact hR _ _ _ rfl | assumption) ?_
      refine wv_iload_n dX8_back_11 rfl ?_
      refine wv_zaldN dX8_back_12 (by first | assumption | rfl) hb (by decide) ?_
      refine wv_if_ne (tgt := 18) dX8_back_13 (by decide) (fun h13 => absurd h0 h13) (fun h13 => ?_)
      refine wv_iconst (v := (-1)) dX8_back_16 (by decide) ?_
      refine wv_iret rfl dX8_back_17 ?_
      refine ⟨rfl, rfl, rfl, fun q => absurd hx q, fun c hc hcb => ?_⟩
      obtain rfl : b = c := (nI_eq (by omega) (by omega)).mp hcb
      exact ⟨fun _ => ⟨rfl, rfl⟩, fun q => absurd h0 q⟩
    · by_cases hex : ∃ B, mBx I b B
      · obtain ⟨B0, hB0⟩ := hex
        refine wv_pad 1 ?_
        show wr_V l 1 mX8_back 0 [some (.ref 55), some (.int (nI b)), none] [] SH I L R 0 0 _
        refine wv_iload_n dX8_back_0 rfl ?_
        refine wv_s1e oX8_isBox kX8_503 dX8_back_1 (by omega) (Nat.le_of_ble_eq_true rfl) (Nat.le_of_ble_eq_true rfl) (x_isBox _) ?_
        refine wv_if_eq (tgt := 16) dX8_back_4 (by decide) (fun h4 => absurd h4 (by rw [if_pos hx]; decide)) (fun h4 => ?_)
        refine wv_aload_n dX8_back_7 rfl ?_
        refine wv_getR fX8_130 dX8_back_8 rfl (by first | assumption | rfl) (by first | exact hR _ _ _ rfl | assumption) ?_
        refine wv_iload_n dX8_back_11 rfl ?_
        refine wv_zaldN dX8_back_12 (by first | assumption | rfl) hb (by decide) ?_
        refine wv_if_ne (tgt := 18) dX8_back_13 (by decide) (fun h13 => ?_) (fun h13 => absurd h13 h0)
        refine wv_iconst (v := nI 0) dX8_back_18 rfl ?_
        refine wv_istore_k (i := 2) dX8_back_19 rfl (by decide) ?_
        have e : ∀ a d, I a d = bkI I b 0 a d := fun a d => by simp [bkI]
        refine wr_V.imp (wv_le (by simp [wr_leq, wr_s1, wr_s2, wr_wide]) (wv_I e (core b hb B0 hB0))) (fun v s' I' L' R' h => ?_)
        obtain ⟨q1, q2, q3, q4, q5, q6⟩ := h
        refine ⟨q1, q2, q3, fun q => absurd hx q, fun c hc hcb => ?_⟩
        obtain rfl : b = c := (nI_eq (by omega) (by omega)).mp hcb
        refine ⟨fun q => absurd q h0, fun _ B hB => ?_⟩
        have t1 : B.1.2.2.1 = B0.1.2.2.1 := hB.2.2.2.1.symm.trans hB0.2.2.2.1
        refine ⟨q4.trans (by rw [t1]), ⟨⟨fun s hs => ?_, fun s hs => ?_, ?_, ?_⟩, fun k hk => ?_, ?_⟩, q6⟩
        · rw [q5.1.1 s hs, ← hB0.1 s hs, hB.1 s hs]
        · rw [q5.1.2.1 s hs, ← hB0.2.1 s hs, hB.2.1 s hs]
        · rw [t1]; exact q5.1.2.2.1
        · have t2 : B.1.2.2.2 = B0.1.2.2.2 := hB.2.2.2.2.1.symm.trans hB0.2.2.2.2.1
          rw [t2]; exact q5.1.2.2.2
        · rw [q5.2.1 k hk, ← hB0.2.2.1 k hk, hB.2.2.1 k hk]
        · have t2 : B.2.2 = B0.2.2 := hB.2.2.2.2.2.symm.trans hB0.2.2.2.2.2
          rw [t2]; exact q5.2.2
      · exact absurd ⟨((fun s => I 94 (40 * b + s), fun s => I 95 (40 * b + s), I 97 b, I 98 b), (fun k => I 96 (3 * b + k)), I 99 b), fun s _ => rfl, fun s _ => rfl, fun k _ => rfl, rfl, rfl, rfl⟩ hex
  · refine wv_pad 1 ?_
    show wr_V l 1 mX8_back 0 [some (.ref 55), some (.int x), none] [] SH I L R 0 0 _
    refine wv_iload_n dX8_back_0 rfl ?_
    refine wv_s1e oX8_isBox kX8_503 dX8_back_1 (by omega) (Nat.le_of_ble_eq_true rfl) (Nat.le_of_ble_eq_true rfl) (x_isBox _) ?_
    refine wv_if_eq (tgt := 16) dX8_back_4 (by decide) (fun h4 => ?_) (fun h4 => absurd (if_neg hx) h4)
    refine wv_iconst (v := (-1)) dX8_back_16 (by decide) ?_
    refine wv_iret rfl dX8_back_17 ?_
    refine ⟨rfl, rfl, rfl, fun _ => ⟨rfl, rfl⟩, fun b hb hxb => absurd (by rw [hxb]; exact ⟨nI_pos' (by omega), nI_lt (b := 3) hb (by omega)⟩) hx⟩

set_option maxHeartbeats 4000000 in
set_option maxRecDepth 100000 in
theorem xW_seed {l : Launch} {I : wr_TI} {L : wr_TL} {R : wr_TR} (x : Int32) : wr_E l 0 mX8_seed [.ref 55, .int x] SH I L R (some (.int (I 55 59))) (wr_uI I 55 59 x) L R := by
  refine wv_pad 1 ?_
  show wr_V l 0 mX8_seed 0 [some (.ref 55), some (.int x), none] [] SH I L R 0 0 _
  refine wv_aload_n dX8_seed_0 rfl ?_
  refine wv_getI fX8_96 dX8_seed_1 rfl (by first | assumption | rfl) ?_
  refine wv_istore_k (i := 2) dX8_seed_4 rfl (by decide) ?_
  refine wv_aload_n dX8_seed_5 rfl ?_
  refine wv_iload_n dX8_seed_6 rfl ?_
  refine wv_putI fX8_96 dX8_seed_7 rfl rfl rfl rfl (by first | assumption | rfl) ?_
  refine wv_iload_n dX8_seed_10 rfl ?_
  refine wv_iret rfl dX8_seed_11 ?_
  exact ⟨rfl, rfl, rfl, rfl, rfl⟩

set_option maxHeartbeats 4000000 in
set_option maxRecDepth 100000 in
theorem xW_about {l : Launch} {I : wr_TI} {L : wr_TL} {R : wr_TR} (hR : wr_RC R) (g : RG) (F : FS) (ok : gOK g) (hg : mgV I g) (hF : mcF I F) (what : Int32) : wr_E l 2 mX8_about [.ref 55, .int what] SH I L R (some (.int (if what = 0 then nI (gN g) else if what = 1 then F.1.2.2.1 else if what = 2 then F.1.2.2.2 else if what = 3 then nI (upn g F.1) else if what = 4 then I 55 69 else if what = 5 then I 55 70 else if what = 6 then I 55 1 else if what = 7 then F.2.2 else if what = 8 then I 55 46 else -1))) I L R := by
  obtain ⟨k6, k40, -⟩ := id ok
  have hn : I 55 28 = nI (gN g) := hg.1
  have e1 : I 55 57 = F.1.2.2.1 := hF.1.2.2.1
  have e2 : I 55 58 = F.1.2.2.2 := hF.1.2.2.2
  have e3 := ups_of k40 hF.1
  have e4 : I 55 59 = F.2.2 := hF.2.2
  refine wv_pad 0 ?_
  show wr_V l 2 mX8_about 0 [some (.ref 55), some (.int what)] [] SH I L R 0 0 _
  refine wv_iload_n dX8_about_0 rfl ?_
  by_cases hv1_0 : what = 0
  · subst hv1_0
    refine wv_tableIn (off := 51) (tgt := 52) dX8_about_1 (by decide) (by decide) (by decide) (by decide) ?_
    refine wv_aload_n dX8_about_52 rfl ?_
    refine wv_getI fX8_151 dX8_about_53 rfl (by first | assumption | rfl) ?_
    refine wv_iret rfl dX8_about_56 ?_
    refine ⟨?_, rfl, rfl, rfl, rfl⟩
    simp [*]
  by_cases hv1_1 : what = 1
  · subst hv1_1
    refine wv_tableIn (off := 56) (tgt := 57) dX8_about_1 (by decide) (by decide) (by decide) (by decide) ?_
    refine wv_aload_n dX8_about_57 rfl ?_
    refine wv_getI fX8_381 dX8_about_58 rfl (by first | assumption | rfl) ?_
    refine wv_iret rfl dX8_about_61 ?_
    refine ⟨?_, rfl, rfl, rfl, rfl⟩
    simp [*]
  by_cases hv1_2 : what = 2
  · subst hv1_2
    refine wv_tableIn (off := 61) (tgt := 62) dX8_about_1 (by decide) (by decide) (by decide) (by decide) ?_
    refine wv_aload_n dX8_about_62 rfl ?_
    refine wv_getI fX8_384 dX8_about_63 rfl (by first | assumption | rfl) ?_
    refine wv_iret rfl dX8_about_66 ?_
    refine ⟨?_, rfl, rfl, rfl, rfl⟩
    simp [*]
  by_cases hv1_3 : what = 3
  · subst hv1_3
    refine wv_tableIn (off := 66) (tgt := 67) dX8_about_1 (by decide) (by decide) (by decide) (by decide) ?_
    refine wv_aload_n dX8_about_67 rfl ?_
    refine wv_v0e oX8_ups kX8_414 dX8_about_68 (by omega) (by first | assumption | rfl) ⟨rfl, by decide⟩ (Nat.le_of_ble_eq_true rfl) (Nat.le_of_ble_eq_true rfl) (x_ups hR (gN g) hn k40) ?_
    refine wv_iret rfl dX8_about_71 ?_
    refine ⟨?_, rfl, rfl, rfl, rfl⟩
    simp [*]
  by_cases hv1_4 : what = 4
  · subst hv1_4
    refine wv_tableIn (off := 71) (tgt := 72) dX8_about_1 (by decide) (by decide) (by decide) (by decide) ?_
    refine wv_aload_n dX8_about_72 rfl ?_
    refine wv_getI fX8_378 dX8_about_73 rfl (by first | assumption | rfl) ?_
    refine wv_iret rfl dX8_about_76 ?_
    refine ⟨?_, rfl, rfl, rfl, rfl⟩
    simp [*]
  by_cases hv1_5 : what = 5
  · subst hv1_5
    refine wv_tableIn (off := 76) (tgt := 77) dX8_about_1 (by decide) (by decide) (by decide) (by decide) ?_
    refine wv_aload_n dX8_about_77 rfl ?_
    refine wv_getI fX8_473 dX8_about_78 rfl (by first | assumption | rfl) ?_
    refine wv_iret rfl dX8_about_81 ?_
    refine ⟨?_, rfl, rfl, rfl, rfl⟩
    simp [*]
  by_cases hv1_6 : what = 6
  · subst hv1_6
    refine wv_tableIn (off := 81) (tgt := 82) dX8_about_1 (by decide) (by decide) (by decide) (by decide) ?_
    refine wv_aload_n dX8_about_82 rfl ?_
    refine wv_getI fX8_160 dX8_about_83 rfl (by first | assumption | rfl) ?_
    refine wv_iret rfl dX8_about_86 ?_
    refine ⟨?_, rfl, rfl, rfl, rfl⟩
    simp [*]
  by_cases hv1_7 : what = 7
  · subst hv1_7
    refine wv_tableIn (off := 86) (tgt := 87) dX8_about_1 (by decide) (by decide) (by decide) (by decide) ?_
    refine wv_aload_n dX8_about_87 rfl ?_
    refine wv_getI fX8_96 dX8_about_88 rfl (by first | assumption | rfl) ?_
    refine wv_iret rfl dX8_about_91 ?_
    refine ⟨?_, rfl, rfl, rfl, rfl⟩
    simp [*]
  by_cases hv1_8 : what = 8
  · subst hv1_8
    refine wv_tableIn (off := 91) (tgt := 92) dX8_about_1 (by decide) (by decide) (by decide) (by decide) ?_
    refine wv_aload_n dX8_about_92 rfl ?_
    refine wv_getI fX8_366 dX8_about_93 rfl (by first | assumption | rfl) ?_
    refine wv_iret rfl dX8_about_96 ?_
    refine ⟨?_, rfl, rfl, rfl, rfl⟩
    simp [*]
  refine wv_tableOut (tgt := 97) dX8_about_1 (by have q0 : (what).toInt ≠ 0 := wr_ne hv1_0; have q1 : (what).toInt ≠ 1 := wr_ne hv1_1; have q2 : (what).toInt ≠ 2 := wr_ne hv1_2; have q3 : (what).toInt ≠ 3 := wr_ne hv1_3; have q4 : (what).toInt ≠ 4 := wr_ne hv1_4; have q5 : (what).toInt ≠ 5 := wr_ne hv1_5; have q6 : (what).toInt ≠ 6 := wr_ne hv1_6; have q7 : (what).toInt ≠ 7 := wr_ne hv1_7; have q8 : (what).toInt ≠ 8 := wr_ne hv1_8; omega) (by decide) ?_
  refine wv_iconst (v := (-1)) dX8_about_97 (by decide) ?_
  refine wv_iret rfl dX8_about_98 ?_
  refine ⟨?_, rfl, rfl, rfl, rfl⟩
  simp [*]

