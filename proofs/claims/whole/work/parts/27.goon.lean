/-! a plain law goes on -/
def goL (L : wr_TL) (q u r : Nat) (x : Int64) : wr_TL := fun a b => if a = q then (if b = 7 then x else if b = 8 then (if 1 < u then L q 7 else 0) else if b = 9 then (if 2 < u then L q 8 else 0) else if b = 10 then (if 0 < r then (if u = 1 then L q 7 else if u = 2 then L q 8 else L q 9) else 0) else if b = 11 then (if 1 < r then L q 10 else 0) else if b = 12 then (if 2 < r then L q 11 else 0) else L q b) else L a b
set_option maxHeartbeats 4000000 in
set_option maxRecDepth 100000 in
theorem cP_go10 {l : Launch} {I : wr_TI} {L : wr_TL} {R : wr_TR} (q t a : Nat) (g : RG) (hq : SH[q]? = some (.inr 3)) (ht : SH[t]? = some (.inr 5)) (hqt : t ≠ q) (hV : rgV I L t g) (hT : plT I R q t a g) (ha : a < 324) (hL : ∀ s, gN g ≤ s → lb (L q 7) s = false) (hu : a / 4 % 3 + 1 = 1) (hr : a % 4 = 0) : wr_P l 3 mX3_goOn [.ref q] SH I L R (fun v s' I' L' R' => v = none ∧ s' = SH ∧ I' = I ∧ R' = R ∧ ∃ x, (∀ s, s < 64 → lb x s = (decide (s < gN g) && decide (a / 12 % 3 + 1 ≤ ck g a (lb (L q 7)) (2 * pm g a) s))) ∧ L' = goL L q 1 0 (x &&& ((L q 7 ||| L q 8 ||| L q 9 ||| L q 10 ||| L q 11 ||| L q 12 ||| L t 6 ||| L t 7) ^^^ (-1)))) := by
  have hr0 := hT.1
  have hup : I q 5 = nI 1 := by rw [hT.2.2.2.2.2.1, hu]
  have hre : I q 6 = nI 0 := by rw [hT.2.2.2.2.2.2, hr]
  refine wv_pad 6 ?_
  show wr_V l 3 mX3_goOn 0 [some (.ref q), none, none, none, none, none, none] [] SH I L R 0 0 _
  refine wv_aload_n dX3_goOn_0 rfl ?_
  refine wv_v0e oX3_allUp kX3_58 dX3_goOn_1 (by omega) (by first | assumption | rfl) ⟨rfl, by decide⟩ (Nat.le_of_ble_eq_true rfl) (Nat.le_of_ble_eq_true rfl) (cP_allUp q hq) ?_
  refine wv_aload_n dX3_goOn_4 rfl ?_
  refine wv_getL fX3_49 dX3_goOn_5 rfl (by first | assumption | rfl) ?_
  refine wv_lor dX3_goOn_8 ?_
  refine wv_aload_n dX3_goOn_9 rfl ?_
  refine wv_getL fX3_52 dX3_goOn_10 rfl (by first | assumption | rfl) ?_
  refine wv_lor dX3_goOn_13 ?_
  refine wv_aload_n dX3_goOn_14 rfl ?_
  refine wv_getL fX3_55 dX3_goOn_15 rfl (by first | assumption | rfl) ?_
  refine wv_lor dX3_goOn_18 ?_
  refine wv_lstore_k (i := 1) dX3_goOn_19 rfl (by decide) ?_
  refine wv_aload_n dX3_goOn_20 rfl ?_
  refine wv_v0 oX3_thoseWhoSee kX3_62 dX3_goOn_21 (by omega) (by first | assumption | rfl) ⟨rfl, by decide⟩ (Nat.le_of_ble_eq_true rfl) (Nat.le_of_ble_eq_true rfl) (cP_see q t a g hq ht hV hT ha hL) (fun v9 s9 J9 L9 R9 h9 => ?_)
  obtain ⟨⟨x, rfl, hx⟩, rfl, rfl, rfl, rfl⟩ := h9
  refine wv_lload_n dX3_goOn_24 rfl ?_
  refine wv_aload_n dX3_goOn_25 rfl ?_
  refine wv_getR fX3_7 dX3_goOn_26 rfl (by first | assumption | rfl) (by first | exact hR _ _ _ rfl | assumption) ?_
  refine wv_getL fX3_65 dX3_goOn_29 rfl (by first | assumption | rfl) ?_
  refine wv_lor dX3_goOn_32 ?_
  refine wv_aload_n dX3_goOn_33 rfl ?_
  refine wv_getR fX3_7 dX3_goOn_34 rfl (by first | assumption | rfl) (by first | exact hR _ _ _ rfl | assumption) ?_
  refine wv_getL fX3_68 dX3_goOn_37 rfl (by first | assumption | rfl) ?_
  refine wv_lor dX3_goOn_40 ?_
  refine wv_ldc2_w nX3_71 dX3_goOn_41 ?_
  refine wv_lxor dX3_goOn_44 ?_
  refine wv_land dX3_goOn_45 ?_
  refine wv_lstore_k (i := 3) dX3_goOn_46 rfl (by decide) ?_
  refine wv_aload_n dX3_goOn_47 rfl ?_
  refine wv_getI fX3_17 dX3_goOn_48 rfl (by first | assumption | rfl) ?_
  refine wv_iconst (v := 1) dX3_goOn_51 (by decide) ?_
  refine wv_icmp_ne (tgt := 62) dX3_goOn_52 (by decide) (fun h52 => absurd (by rw [hup]; rfl) h52) (fun h52 => ?_)
  refine wv_aload_n dX3_goOn_55 rfl ?_
  refine wv_getL fX3_39 dX3_goOn_56 rfl (by first | assumption | rfl) ?_
  refine wv_goto (tgt := 81) dX3_goOn_59 (by decide) ?_
  refine wv_lstore dX3_goOn_81 (by decide) ?_
  refine wv_aload_n dX3_goOn_83 rfl ?_
  refine wv_aload_n dX3_goOn_84 rfl ?_
  refine wv_getI fX3_13 dX3_goOn_85 rfl (by first | assumption | rfl) ?_
  refine wv_iconst (v := 2) dX3_goOn_88 (by decide) ?_
  refine wv_icmp_le (tgt := 99) dX3_goOn_89 (by decide) (fun h89 => ?_) (fun h89 => absurd (by rw [hre]; decide) h89)
  refine wv_lconst (v := 0) dX3_goOn_99 (by decide) ?_
  refine wv_putL fX3_55 dX3_goOn_100 rfl rfl rfl rfl (by first | assumption | rfl) ?_
  refine wv_aload_n dX3_goOn_103 rfl ?_
  refine wv_aload_n dX3_goOn_104 rfl ?_
  refine wv_getI fX3_13 dX3_goOn_105 rfl (by first | assumption | rfl) ?_
  refine wv_iconst (v := 1) dX3_goOn_108 (by decide) ?_
  refine wv_icmp_le (tgt := 119) dX3_goOn_109 (by decide) (fun h109 => ?_) (fun h109 => absurd (by rw [hre]; decide) h109)
  refine wv_lconst (v := 0) dX3_goOn_119 (by decide) ?_
  refine wv_putL fX3_52 dX3_goOn_120 rfl rfl rfl rfl (by first | assumption | rfl) ?_
  refine wv_aload_n dX3_goOn_123 rfl ?_
  refine wv_aload_n dX3_goOn_124 rfl ?_
  refine wv_getI fX3_13 dX3_goOn_125 rfl (by first | assumption | rfl) ?_
  refine wv_if_le (tgt := 136) dX3_goOn_128 (by decide) (fun h128 => ?_) (fun h128 => absurd (by rw [hre]; decide) h128)
  refine wv_lconst (v := 0) dX3_goOn_136 (by decide) ?_
  refine wv_putL fX3_49 dX3_goOn_137 rfl rfl rfl rfl (by first | assumption | rfl) ?_
  refine wv_aload_n dX3_goOn_140 rfl ?_
  refine wv_aload_n dX3_goOn_141 rfl ?_
  refine wv_getI fX3_17 dX3_goOn_142 rfl (by first | assumption | rfl) ?_
  refine wv_iconst (v := 2) dX3_goOn_145 (by decide) ?_
  refine wv_icmp_le (tgt := 156) dX3_goOn_146 (by decide) (fun h146 => ?_) (fun h146 => absurd (by rw [hup]; decide) h146)
  refine wv_lconst (v := 0) dX3_goOn_156 (by decide) ?_
  refine wv_putL fX3_46 dX3_goOn_157 rfl rfl rfl rfl (by first | assumption | rfl) ?_
  refine wv_aload_n dX3_goOn_160 rfl ?_
  refine wv_aload_n dX3_goOn_161 rfl ?_
  refine wv_getI fX3_17 dX3_goOn_162 rfl (by first | assumption | rfl) ?_
  refine wv_iconst (v := 1) dX3_goOn_165 (by decide) ?_
  refine wv_icmp_le (tgt := 176) dX3_goOn_166 (by decide) (fun h166 => ?_) (fun h166 => absurd (by rw [hup]; decide) h166)
  refine wv_lconst (v := 0) dX3_goOn_176 (by decide) ?_
  refine wv_putL fX3_43 dX3_goOn_177 rfl rfl rfl rfl (by first | assumption | rfl) ?_
  refine wv_aload_n dX3_goOn_180 rfl ?_
  refine wv_lload_n dX3_goOn_181 rfl ?_
  refine wv_putL fX3_39 dX3_goOn_182 rfl rfl rfl rfl (by first | assumption | rfl) ?_
  refine wv_ret (x := ()) rfl dX3_goOn_185 ?_
  refine ⟨rfl, rfl, rfl, rfl, x, hx, ?_⟩
  funext b d
  by_cases hb : b = q
  · subst hb
    by_cases h7 : d = 7
    · subst h7; simp [wr_uL, goL]
    · by_cases h8 : d = 8
      · subst h8; simp [wr_uL, goL]
      · by_cases h9 : d = 9
        · subst h9; simp [wr_uL, goL]
        · by_cases h10 : d = 10
          · subst h10; simp [wr_uL, goL]
          · by_cases h11 : d = 11
            · subst h11; simp [wr_uL, goL]
            · by_cases h12 : d = 12
              · subst h12; simp [wr_uL, goL]
              · simp [wr_uL, goL, h7, h8, h9, h10, h11, h12]
  · simp [wr_uL, goL, hb]

set_option maxHeartbeats 4000000 in
set_option maxRecDepth 100000 in
theorem cP_go11 {l : Launch} {I : wr_TI} {L : wr_TL} {R : wr_TR} (q t a : Nat) (g : RG) (hq : SH[q]? = some (.inr 3)) (ht : SH[t]? = some (.inr 5)) (hqt : t ≠ q) (hV : rgV I L t g) (hT : plT I R q t a g) (ha : a < 324) (hL : ∀ s, gN g ≤ s → lb (L q 7) s = false) (hu : a / 4 % 3 + 1 = 1) (hr : a % 4 = 1) : wr_P l 3 mX3_goOn [.ref q] SH I L R (fun v s' I' L' R' => v = none ∧ s' = SH ∧ I' = I ∧ R' = R ∧ ∃ x, (∀ s, s < 64 → lb x s = (decide (s < gN g) && decide (a / 12 % 3 + 1 ≤ ck g a (lb (L q 7)) (2 * pm g a) s))) ∧ L' = goL L q 1 1 (x &&& ((L q 7 ||| L q 8 ||| L q 9 ||| L q 10 ||| L q 11 ||| L q 12 ||| L t 6 ||| L t 7) ^^^ (-1)))) := by
  have hr0 := hT.1
  have hup : I q 5 = nI 1 := by rw [hT.2.2.2.2.2.1, hu]
  have hre : I q 6 = nI 1 := by rw [hT.2.2.2.2.2.2, hr]
  refine wv_pad 6 ?_
  show wr_V l 3 mX3_goOn 0 [some (.ref q), none, none, none, none, none, none] [] SH I L R 0 0 _
  refine wv_aload_n dX3_goOn_0 rfl ?_
  refine wv_v0e oX3_allUp kX3_58 dX3_goOn_1 (by omega) (by first | assumption | rfl) ⟨rfl, by decide⟩ (Nat.le_of_ble_eq_true rfl) (Nat.le_of_ble_eq_true rfl) (cP_allUp q hq) ?_
  refine wv_aload_n dX3_goOn_4 rfl ?_
  refine wv_getL fX3_49 dX3_goOn_5 rfl (by first | assumption | rfl) ?_
  refine wv_lor dX3_goOn_8 ?_
  refine wv_aload_n dX3_goOn_9 rfl ?_
  refine wv_getL fX3_52 dX3_goOn_10 rfl (by first | assumption | rfl) ?_
  refine wv_lor dX3_goOn_13 ?_
  refine wv_aload_n dX3_goOn_14 rfl ?_
  refine wv_getL fX3_55 dX3_goOn_15 rfl (by first | assumption | rfl) ?_
  refine wv_lor dX3_goOn_18 ?_
  refine wv_lstore_k (i := 1) dX3_goOn_19 rfl (by decide) ?_
  refine wv_aload_n dX3_goOn_20 rfl ?_
  refine wv_v0 oX3_thoseWhoSee kX3_62 dX3_goOn_21 (by omega) (by first | assumption | rfl) ⟨rfl, by decide⟩ (Nat.le_of_ble_eq_true rfl) (Nat.le_of_ble_eq_true rfl) (cP_see q t a g hq ht hV hT ha hL) (fun v9 s9 J9 L9 R9 h9 => ?_)
  obtain ⟨⟨x, rfl, hx⟩, rfl, rfl, rfl, rfl⟩ := h9
  refine wv_lload_n dX3_goOn_24 rfl ?_
  refine wv_aload_n dX3_goOn_25 rfl ?_
  refine wv_getR fX3_7 dX3_goOn_26 rfl (by first | assumption | rfl) (by first | exact hR _ _ _ rfl | assumption) ?_
  refine wv_getL fX3_65 dX3_goOn_29 rfl (by first | assumption | rfl) ?_
  refine wv_lor dX3_goOn_32 ?_
  refine wv_aload_n dX3_goOn_33 rfl ?_
  refine wv_getR fX3_7 dX3_goOn_34 rfl (by first | assumption | rfl) (by first | exact hR _ _ _ rfl | assumption) ?_
  refine wv_getL fX3_68 dX3_goOn_37 rfl (by first | assumption | rfl) ?_
  refine wv_lor dX3_goOn_40 ?_
  refine wv_ldc2_w nX3_71 dX3_goOn_41 ?_
  refine wv_lxor dX3_goOn_44 ?_
  refine wv_land dX3_goOn_45 ?_
  refine wv_lstore_k (i := 3) dX3_goOn_46 rfl (by decide) ?_
  refine wv_aload_n dX3_goOn_47 rfl ?_
  refine wv_getI fX3_17 dX3_goOn_48 rfl (by first | assumption | rfl) ?_
  refine wv_iconst (v := 1) dX3_goOn_51 (by decide) ?_
  refine wv_icmp_ne (tgt := 62) dX3_goOn_52 (by decide) (fun h52 => absurd (by rw [hup]; rfl) h52) (fun h52 => ?_)
  refine wv_aload_n dX3_goOn_55 rfl ?_
  refine wv_getL fX3_39 dX3_goOn_56 rfl (by first | assumption | rfl) ?_
  refine wv_goto (tgt := 81) dX3_goOn_59 (by decide) ?_
  refine wv_lstore dX3_goOn_81 (by decide) ?_
  refine wv_aload_n dX3_goOn_83 rfl ?_
  refine wv_aload_n dX3_goOn_84 rfl ?_
  refine wv_getI fX3_13 dX3_goOn_85 rfl (by first | assumption | rfl) ?_
  refine wv_iconst (v := 2) dX3_goOn_88 (by decide) ?_
  refine wv_icmp_le (tgt := 99) dX3_goOn_89 (by decide) (fun h89 => ?_) (fun h89 => absurd (by rw [hre]; decide) h89)
  refine wv_lconst (v := 0) dX3_goOn_99 (by decide) ?_
  refine wv_putL fX3_55 dX3_goOn_100 rfl rfl rfl rfl (by first | assumption | rfl) ?_
  refine wv_aload_n dX3_goOn_103 rfl ?_
  refine wv_aload_n dX3_goOn_104 rfl ?_
  refine wv_getI fX3_13 dX3_goOn_105 rfl (by first | assumption | rfl) ?_
  refine wv_iconst (v := 1) dX3_goOn_108 (by decide) ?_
  refine wv_icmp_le (tgt := 119) dX3_goOn_109 (by decide) (fun h109 => ?_) (fun h109 => absurd (by rw [hre]; decide) h109)
  refine wv_lconst (v := 0) dX3_goOn_119 (by decide) ?_
  refine wv_putL fX3_52 dX3_goOn_120 rfl rfl rfl rfl (by first | assumption | rfl) ?_
  refine wv_aload_n dX3_goOn_123 rfl ?_
  refine wv_aload_n dX3_goOn_124 rfl ?_
  refine wv_getI fX3_13 dX3_goOn_125 rfl (by first | assumption | rfl) ?_
  refine wv_if_le (tgt := 136) dX3_goOn_128 (by decide) (fun h128 => absurd h128 (by rw [hre]; decide)) (fun h128 => ?_)
  refine wv_lload dX3_goOn_131 rfl ?_
  refine wv_goto (tgt := 137) dX3_goOn_133 (by decide) ?_
  refine wv_putL fX3_49 dX3_goOn_137 rfl rfl rfl rfl (by first | assumption | rfl) ?_
  refine wv_aload_n dX3_goOn_140 rfl ?_
  refine wv_aload_n dX3_goOn_141 rfl ?_
  refine wv_getI fX3_17 dX3_goOn_142 rfl (by first | assumption | rfl) ?_
  refine wv_iconst (v := 2) dX3_goOn_145 (by decide) ?_
  refine wv_icmp_le (tgt := 156) dX3_goOn_146 (by decide) (fun h146 => ?_) (fun h146 => absurd (by rw [hup]; decide) h146)
  refine wv_lconst (v := 0) dX3_goOn_156 (by decide) ?_
  refine wv_putL fX3_46 dX3_goOn_157 rfl rfl rfl rfl (by first | assumption | rfl) ?_
  refine wv_aload_n dX3_goOn_160 rfl ?_
  refine wv_aload_n dX3_goOn_161 rfl ?_
  refine wv_getI fX3_17 dX3_goOn_162 rfl (by first | assumption | rfl) ?_
  refine wv_iconst (v := 1) dX3_goOn_165 (by decide) ?_
  refine wv_icmp_le (tgt := 176) dX3_goOn_166 (by decide) (fun h166 => ?_) (fun h166 => absurd (by rw [hup]; decide) h166)
  refine wv_lconst (v := 0) dX3_goOn_176 (by decide) ?_
  refine wv_putL fX3_43 dX3_goOn_177 rfl rfl rfl rfl (by first | assumption | rfl) ?_
  refine wv_aload_n dX3_goOn_180 rfl ?_
  refine wv_lload_n dX3_goOn_181 rfl ?_
  refine wv_putL fX3_39 dX3_goOn_182 rfl rfl rfl rfl (by first | assumption | rfl) ?_
  refine wv_ret (x := ()) rfl dX3_goOn_185 ?_
  refine ⟨rfl, rfl, rfl, rfl, x, hx, ?_⟩
  funext b d
  by_cases hb : b = q
  · subst hb
    by_cases h7 : d = 7
    · subst h7; simp [wr_uL, goL]
    · by_cases h8 : d = 8
      · subst h8; simp [wr_uL, goL]
      · by_cases h9 : d = 9
        · subst h9; simp [wr_uL, goL]
        · by_cases h10 : d = 10
          · subst h10; simp [wr_uL, goL]
          · by_cases h11 : d = 11
            · subst h11; simp [wr_uL, goL]
            · by_cases h12 : d = 12
              · subst h12; simp [wr_uL, goL]
              · simp [wr_uL, goL, h7, h8, h9, h10, h11, h12]
  · simp [wr_uL, goL, hb]

set_option maxHeartbeats 4000000 in
set_option maxRecDepth 100000 in
theorem cP_go12 {l : Launch} {I : wr_TI} {L : wr_TL} {R : wr_TR} (q t a : Nat) (g : RG) (hq : SH[q]? = some (.inr 3)) (ht : SH[t]? = some (.inr 5)) (hqt : t ≠ q) (hV : rgV I L t g) (hT : plT I R q t a g) (ha : a < 324) (hL : ∀ s, gN g ≤ s → lb (L q 7) s = false) (hu : a / 4 % 3 + 1 = 1) (hr : a % 4 = 2) : wr_P l 3 mX3_goOn [.ref q] SH I L R (fun v s' I' L' R' => v = none ∧ s' = SH ∧ I' = I ∧ R' = R ∧ ∃ x, (∀ s, s < 64 → lb x s = (decide (s < gN g) && decide (a / 12 % 3 + 1 ≤ ck g a (lb (L q 7)) (2 * pm g a) s))) ∧ L' = goL L q 1 2 (x &&& ((L q 7 ||| L q 8 ||| L q 9 ||| L q 10 ||| L q 11 ||| L q 12 ||| L t 6 ||| L t 7) ^^^ (-1)))) := by
  have hr0 := hT.1
  have hup : I q 5 = nI 1 := by rw [hT.2.2.2.2.2.1, hu]
  have hre : I q 6 = nI 2 := by rw [hT.2.2.2.2.2.2, hr]
  refine wv_pad 6 ?_
  show wr_V l 3 mX3_goOn 0 [some (.ref q), none, none, none, none, none, none] [] SH I L R 0 0 _
  refine wv_aload_n dX3_goOn_0 rfl ?_
  refine wv_v0e oX3_allUp kX3_58 dX3_goOn_1 (by omega) (by first | assumption | rfl) ⟨rfl, by decide⟩ (Nat.le_of_ble_eq_true rfl) (Nat.le_of_ble_eq_true rfl) (cP_allUp q hq) ?_
  refine wv_aload_n dX3_goOn_4 rfl ?_
  refine wv_getL fX3_49 dX3_goOn_5 rfl (by first | assumption | rfl) ?_
  refine wv_lor dX3_goOn_8 ?_
  refine wv_aload_n dX3_goOn_9 rfl ?_
  refine wv_getL fX3_52 dX3_goOn_10 rfl (by first | assumption | rfl) ?_
  refine wv_lor dX3_goOn_13 ?_
  refine wv_aload_n dX3_goOn_14 rfl ?_
  refine wv_getL fX3_55 dX3_goOn_15 rfl (by first | assumption | rfl) ?_
  refine wv_lor dX3_goOn_18 ?_
  refine wv_lstore_k (i := 1) dX3_goOn_19 rfl (by decide) ?_
  refine wv_aload_n dX3_goOn_20 rfl ?_
  refine wv_v0 oX3_thoseWhoSee kX3_62 dX3_goOn_21 (by omega) (by first | assumption | rfl) ⟨rfl, by decide⟩ (Nat.le_of_ble_eq_true rfl) (Nat.le_of_ble_eq_true rfl) (cP_see q t a g hq ht hV hT ha hL) (fun v9 s9 J9 L9 R9 h9 => ?_)
  obtain ⟨⟨x, rfl, hx⟩, rfl, rfl, rfl, rfl⟩ := h9
  refine wv_lload_n dX3_goOn_24 rfl ?_
  refine wv_aload_n dX3_goOn_25 rfl ?_
  refine wv_getR fX3_7 dX3_goOn_26 rfl (by first | assumption | rfl) (by first | exact hR _ _ _ rfl | assumption) ?_
  refine wv_getL fX3_65 dX3_goOn_29 rfl (by first | assumption | rfl) ?_
  refine wv_lor dX3_goOn_32 ?_
  refine wv_aload_n dX3_goOn_33 rfl ?_
  refine wv_getR fX3_7 dX3_goOn_34 rfl (by first | assumption | rfl) (by first | exact hR _ _ _ rfl | assumption) ?_
  refine wv_getL fX3_68 dX3_goOn_37 rfl (by first | assumption | rfl) ?_
  refine wv_lor dX3_goOn_40 ?_
  refine wv_ldc2_w nX3_71 dX3_goOn_41 ?_
  refine wv_lxor dX3_goOn_44 ?_
  refine wv_land dX3_goOn_45 ?_
  refine wv_lstore_k (i := 3) dX3_goOn_46 rfl (by decide) ?_
  refine wv_aload_n dX3_goOn_47 rfl ?_
  refine wv_getI fX3_17 dX3_goOn_48 rfl (by first | assumption | rfl) ?_
  refine wv_iconst (v := 1) dX3_goOn_51 (by decide) ?_
  refine wv_icmp_ne (tgt := 62) dX3_goOn_52 (by decide) (fun h52 => absurd (by rw [hup]; rfl) h52) (fun h52 => ?_)
  refine wv_aload_n dX3_goOn_55 rfl ?_
  refine wv_getL fX3_39 dX3_goOn_56 rfl (by first | assumption | rfl) ?_
  refine wv_goto (tgt := 81) dX3_goOn_59 (by decide) ?_
  refine wv_lstore dX3_goOn_81 (by decide) ?_
  refine wv_aload_n dX3_goOn_83 rfl ?_
  refine wv_aload_n dX3_goOn_84 rfl ?_
  refine wv_getI fX3_13 dX3_goOn_85 rfl (by first | assumption | rfl) ?_
  refine wv_iconst (v := 2) dX3_goOn_88 (by decide) ?_
  refine wv_icmp_le (tgt := 99) dX3_goOn_89 (by decide) (fun h89 => ?_) (fun h89 => absurd (by rw [hre]; decide) h89)
  refine wv_lconst (v := 0) dX3_goOn_99 (by decide) ?_
  refine wv_putL fX3_55 dX3_goOn_100 rfl rfl rfl rfl (by first | assumption | rfl) ?_
  refine wv_aload_n dX3_goOn_103 rfl ?_
  refine wv_aload_n dX3_goOn_104 rfl ?_
  refine wv_getI fX3_13 dX3_goOn_105 rfl (by first | assumption | rfl) ?_
  refine wv_iconst (v := 1) dX3_goOn_108 (by decide) ?_
  refine wv_icmp_le (tgt := 119) dX3_goOn_109 (by decide) (fun h109 => absurd h109 (by rw [hre]; decide)) (fun h109 => ?_)
  refine wv_aload_n dX3_goOn_112 rfl ?_
  refine wv_getL fX3_49 dX3_goOn_113 rfl (by first | assumption | rfl) ?_
  refine wv_goto (tgt := 120) dX3_goOn_116 (by decide) ?_
  refine wv_putL fX3_52 dX3_goOn_120 rfl rfl rfl rfl (by first | assumption | rfl) ?_
  refine wv_aload_n dX3_goOn_123 rfl ?_
  refine wv_aload_n dX3_goOn_124 rfl ?_
  refine wv_getI fX3_13 dX3_goOn_125 rfl (by first | assumption | rfl) ?_
  refine wv_if_le (tgt := 136) dX3_goOn_128 (by decide) (fun h128 => absurd h128 (by rw [hre]; decide)) (fun h128 => ?_)
  refine wv_lload dX3_goOn_131 rfl ?_
  refine wv_goto (tgt := 137) dX3_goOn_133 (by decide) ?_
  refine wv_putL fX3_49 dX3_goOn_137 rfl rfl rfl rfl (by first | assumption | rfl) ?_
  refine wv_aload_n dX3_goOn_140 rfl ?_
  refine wv_aload_n dX3_goOn_141 rfl ?_
  refine wv_getI fX3_17 dX3_goOn_142 rfl (by first | assumption | rfl) ?_
  refine wv_iconst (v := 2) dX3_goOn_145 (by decide) ?_
  refine wv_icmp_le (tgt := 156) dX3_goOn_146 (by decide) (fun h146 => ?_) (fun h146 => absurd (by rw [hup]; decide) h146)
  refine wv_lconst (v := 0) dX3_goOn_156 (by decide) ?_
  refine wv_putL fX3_46 dX3_goOn_157 rfl rfl rfl rfl (by first | assumption | rfl) ?_
  refine wv_aload_n dX3_goOn_160 rfl ?_
  refine wv_aload_n dX3_goOn_161 rfl ?_
  refine wv_getI fX3_17 dX3_goOn_162 rfl (by first | assumption | rfl) ?_
  refine wv_iconst (v := 1) dX3_goOn_165 (by decide) ?_
  refine wv_icmp_le (tgt := 176) dX3_goOn_166 (by decide) (fun h166 => ?_) (fun h166 => absurd (by rw [hup]; decide) h166)
  refine wv_lconst (v := 0) dX3_goOn_176 (by decide) ?_
  refine wv_putL fX3_43 dX3_goOn_177 rfl rfl rfl rfl (by first | assumption | rfl) ?_
  refine wv_aload_n dX3_goOn_180 rfl ?_
  refine wv_lload_n dX3_goOn_181 rfl ?_
  refine wv_putL fX3_39 dX3_goOn_182 rfl rfl rfl rfl (by first | assumption | rfl) ?_
  refine wv_ret (x := ()) rfl dX3_goOn_185 ?_
  refine ⟨rfl, rfl, rfl, rfl, x, hx, ?_⟩
  funext b d
  by_cases hb : b = q
  · subst hb
    by_cases h7 : d = 7
    · subst h7; simp [wr_uL, goL]
    · by_cases h8 : d = 8
      · subst h8; simp [wr_uL, goL]
      · by_cases h9 : d = 9
        · subst h9; simp [wr_uL, goL]
        · by_cases h10 : d = 10
          · subst h10; simp [wr_uL, goL]
          · by_cases h11 : d = 11
            · subst h11; simp [wr_uL, goL]
            · by_cases h12 : d = 12
              · subst h12; simp [wr_uL, goL]
              · simp [wr_uL, goL, h7, h8, h9, h10, h11, h12]
  · simp [wr_uL, goL, hb]

set_option maxHeartbeats 4000000 in
set_option maxRecDepth 100000 in
theorem cP_go13 {l : Launch} {I : wr_TI} {L : wr_TL} {R : wr_TR} (q t a : Nat) (g : RG) (hq : SH[q]? = some (.inr 3)) (ht : SH[t]? = some (.inr 5)) (hqt : t ≠ q) (hV : rgV I L t g) (hT : plT I R q t a g) (ha : a < 324) (hL : ∀ s, gN g ≤ s → lb (L q 7) s = false) (hu : a / 4 % 3 + 1 = 1) (hr : a % 4 = 3) : wr_P l 3 mX3_goOn [.ref q] SH I L R (fun v s' I' L' R' => v = none ∧ s' = SH ∧ I' = I ∧ R' = R ∧ ∃ x, (∀ s, s < 64 → lb x s = (decide (s < gN g) && decide (a / 12 % 3 + 1 ≤ ck g a (lb (L q 7)) (2 * pm g a) s))) ∧ L' = goL L q 1 3 (x &&& ((L q 7 ||| L q 8 ||| L q 9 ||| L q 10 ||| L q 11 ||| L q 12 ||| L t 6 ||| L t 7) ^^^ (-1)))) := by
  have hr0 := hT.1
  have hup : I q 5 = nI 1 := by rw [hT.2.2.2.2.2.1, hu]
  have hre : I q 6 = nI 3 := by rw [hT.2.2.2.2.2.2, hr]
  refine wv_pad 6 ?_
  show wr_V l 3 mX3_goOn 0 [some (.ref q), none, none, none, none, none, none] [] SH I L R 0 0 _
  refine wv_aload_n dX3_goOn_0 rfl ?_
  refine wv_v0e oX3_allUp kX3_58 dX3_goOn_1 (by omega) (by first | assumption | rfl) ⟨rfl, by decide⟩ (Nat.le_of_ble_eq_true rfl) (Nat.le_of_ble_eq_true rfl) (cP_allUp q hq) ?_
  refine wv_aload_n dX3_goOn_4 rfl ?_
  refine wv_getL fX3_49 dX3_goOn_5 rfl (by first | assumption | rfl) ?_
  refine wv_lor dX3_goOn_8 ?_
  refine wv_aload_n dX3_goOn_9 rfl ?_
  refine wv_getL fX3_52 dX3_goOn_10 rfl (by first | assumption | rfl) ?_
  refine wv_lor dX3_goOn_13 ?_
  refine wv_aload_n dX3_goOn_14 rfl ?_
  refine wv_getL fX3_55 dX3_goOn_15 rfl (by first | assumption | rfl) ?_
  refine wv_lor dX3_goOn_18 ?_
  refine wv_lstore_k (i := 1) dX3_goOn_19 rfl (by decide) ?_
  refine wv_aload_n dX3_goOn_20 rfl ?_
  refine wv_v0 oX3_thoseWhoSee kX3_62 dX3_goOn_21 (by omega) (by first | assumption | rfl) ⟨rfl, by decide⟩ (Nat.le_of_ble_eq_true rfl) (Nat.le_of_ble_eq_true rfl) (cP_see q t a g hq ht hV hT ha hL) (fun v9 s9 J9 L9 R9 h9 => ?_)
  obtain ⟨⟨x, rfl, hx⟩, rfl, rfl, rfl, rfl⟩ := h9
  refine wv_lload_n dX3_goOn_24 rfl ?_
  refine wv_aload_n dX3_goOn_25 rfl ?_
  refine wv_getR fX3_7 dX3_goOn_26 rfl (by first | assumption | rfl) (by first | exact hR _ _ _ rfl | assumption) ?_
  refine wv_getL fX3_65 dX3_goOn_29 rfl (by first | assumption | rfl) ?_
  refine wv_lor dX3_goOn_32 ?_
  refine wv_aload_n dX3_goOn_33 rfl ?_
  refine wv_getR fX3_7 dX3_goOn_34 rfl (by first | assumption | rfl) (by first | exact hR _ _ _ rfl | assumption) ?_
  refine wv_getL fX3_68 dX3_goOn_37 rfl (by first | assumption | rfl) ?_
  refine wv_lor dX3_goOn_40 ?_
  refine wv_ldc2_w nX3_71 dX3_goOn_41 ?_
  refine wv_lxor dX3_goOn_44 ?_
  refine wv_land dX3_goOn_45 ?_
  refine wv_lstore_k (i := 3) dX3_goOn_46 rfl (by decide) ?_
  refine wv_aload_n dX3_goOn_47 rfl ?_
  refine wv_getI fX3_17 dX3_goOn_48 rfl (by first | assumption | rfl) ?_
  refine wv_iconst (v := 1) dX3_goOn_51 (by decide) ?_
  refine wv_icmp_ne (tgt := 62) dX3_goOn_52 (by decide) (fun h52 => absurd (by rw [hup]; rfl) h52) (fun h52 => ?_)
  refine wv_aload_n dX3_goOn_55 rfl ?_
  refine wv_getL fX3_39 dX3_goOn_56 rfl (by first | assumption | rfl) ?_
  refine wv_goto (tgt := 81) dX3_goOn_59 (by decide) ?_
  refine wv_lstore dX3_goOn_81 (by decide) ?_
  refine wv_aload_n dX3_goOn_83 rfl ?_
  refine wv_aload_n dX3_goOn_84 rfl ?_
  refine wv_getI fX3_13 dX3_goOn_85 rfl (by first | assumption | rfl) ?_
  refine wv_iconst (v := 2) dX3_goOn_88 (by decide) ?_
  refine wv_icmp_le (tgt := 99) dX3_goOn_89 (by decide) (fun h89 => absurd h89 (by rw [hre]; decide)) (fun h89 => ?_)
  refine wv_aload_n dX3_goOn_92 rfl ?_
  refine wv_getL fX3_52 dX3_goOn_93 rfl (by first | assumption | rfl) ?_
  refine wv_goto (tgt := 100) dX3_goOn_96 (by decide) ?_
  refine wv_putL fX3_55 dX3_goOn_100 rfl rfl rfl rfl (by first | assumption | rfl) ?_
  refine wv_aload_n dX3_goOn_103 rfl ?_
  refine wv_aload_n dX3_goOn_104 rfl ?_
  refine wv_getI fX3_13 dX3_goOn_105 rfl (by first | assumption | rfl) ?_
  refine wv_iconst (v := 1) dX3_goOn_108 (by decide) ?_
  refine wv_icmp_le (tgt := 119) dX3_goOn_109 (by decide) (fun h109 => absurd h109 (by rw [hre]; decide)) (fun h109 => ?_)
  refine wv_aload_n dX3_goOn_112 rfl ?_
  refine wv_getL fX3_49 dX3_goOn_113 rfl (by first | assumption | rfl) ?_
  refine wv_goto (tgt := 120) dX3_goOn_116 (by decide) ?_
  refine wv_putL fX3_52 dX3_goOn_120 rfl rfl rfl rfl (by first | assumption | rfl) ?_
  refine wv_aload_n dX3_goOn_123 rfl ?_
  refine wv_aload_n dX3_goOn_124 rfl ?_
  refine wv_getI fX3_13 dX3_goOn_125 rfl (by first | assumption | rfl) ?_
  refine wv_if_le (tgt := 136) dX3_goOn_128 (by decide) (fun h128 => absurd h128 (by rw [hre]; decide)) (fun h128 => ?_)
  refine wv_lload dX3_goOn_131 rfl ?_
  refine wv_goto (tgt := 137) dX3_goOn_133 (by decide) ?_
  refine wv_putL fX3_49 dX3_goOn_137 rfl rfl rfl rfl (by first | assumption | rfl) ?_
  refine wv_aload_n dX3_goOn_140 rfl ?_
  refine wv_aload_n dX3_goOn_141 rfl ?_
  refine wv_getI fX3_17 dX3_goOn_142 rfl (by first | assumption | rfl) ?_
  refine wv_iconst (v := 2) dX3_goOn_145 (by decide) ?_
  refine wv_icmp_le (tgt := 156) dX3_goOn_146 (by decide) (fun h146 => ?_) (fun h146 => absurd (by rw [hup]; decide) h146)
  refine wv_lconst (v := 0) dX3_goOn_156 (by decide) ?_
  refine wv_putL fX3_46 dX3_goOn_157 rfl rfl rfl rfl (by first | assumption | rfl) ?_
  refine wv_aload_n dX3_goOn_160 rfl ?_
  refine wv_aload_n dX3_goOn_161 rfl ?_
  refine wv_getI fX3_17 dX3_goOn_162 rfl (by first | assumption | rfl) ?_
  refine wv_iconst (v := 1) dX3_goOn_165 (by decide) ?_
  refine wv_icmp_le (tgt := 176) dX3_goOn_166 (by decide) (fun h166 => ?_) (fun h166 => absurd (by rw [hup]; decide) h166)
  refine wv_lconst (v := 0) dX3_goOn_176 (by decide) ?_
  refine wv_putL fX3_43 dX3_goOn_177 rfl rfl rfl rfl (by first | assumption | rfl) ?_
  refine wv_aload_n dX3_goOn_180 rfl ?_
  refine wv_lload_n dX3_goOn_181 rfl ?_
  refine wv_putL fX3_39 dX3_goOn_182 rfl rfl rfl rfl (by first | assumption | rfl) ?_
  refine wv_ret (x := ()) rfl dX3_goOn_185 ?_
  refine ⟨rfl, rfl, rfl, rfl, x, hx, ?_⟩
  funext b d
  by_cases hb : b = q
  · subst hb
    by_cases h7 : d = 7
    · subst h7; simp [wr_uL, goL]
    · by_cases h8 : d = 8
      · subst h8; simp [wr_uL, goL]
      · by_cases h9 : d = 9
        · subst h9; simp [wr_uL, goL]
        · by_cases h10 : d = 10
          · subst h10; simp [wr_uL, goL]
          · by_cases h11 : d = 11
            · subst h11; simp [wr_uL, goL]
            · by_cases h12 : d = 12
              · subst h12; simp [wr_uL, goL]
              · simp [wr_uL, goL, h7, h8, h9, h10, h11, h12]
  · simp [wr_uL, goL, hb]

set_option maxHeartbeats 4000000 in
set_option maxRecDepth 100000 in
theorem cP_go20 {l : Launch} {I : wr_TI} {L : wr_TL} {R : wr_TR} (q t a : Nat) (g : RG) (hq : SH[q]? = some (.inr 3)) (ht : SH[t]? = some (.inr 5)) (hqt : t ≠ q) (hV : rgV I L t g) (hT : plT I R q t a g) (ha : a < 324) (hL : ∀ s, gN g ≤ s → lb (L q 7) s = false) (hu : a / 4 % 3 + 1 = 2) (hr : a % 4 = 0) : wr_P l 3 mX3_goOn [.ref q] SH I L R (fun v s' I' L' R' => v = none ∧ s' = SH ∧ I' = I ∧ R' = R ∧ ∃ x, (∀ s, s < 64 → lb x s = (decide (s < gN g) && decide (a / 12 % 3 + 1 ≤ ck g a (lb (L q 7)) (2 * pm g a) s))) ∧ L' = goL L q 2 0 (x &&& ((L q 7 ||| L q 8 ||| L q 9 ||| L q 10 ||| L q 11 ||| L q 12 ||| L t 6 ||| L t 7) ^^^ (-1)))) := by
  have hr0 := hT.1
  have hup : I q 5 = nI 2 := by rw [hT.2.2.2.2.2.1, hu]
  have hre : I q 6 = nI 0 := by rw [hT.2.2.2.2.2.2, hr]
  refine wv_pad 6 ?_
  show wr_V l 3 mX3_goOn 0 [some (.ref q), none, none, none, none, none, none] [] SH I L R 0 0 _
  refine wv_aload_n dX3_goOn_0 rfl ?_
  refine wv_v0e oX3_allUp kX3_58 dX3_goOn_1 (by omega) (by first | assumption | rfl) ⟨rfl, by decide⟩ (Nat.le_of_ble_eq_true rfl) (Nat.le_of_ble_eq_true rfl) (cP_allUp q hq) ?_
  refine wv_aload_n dX3_goOn_4 rfl ?_
  refine wv_getL fX3_49 dX3_goOn_5 rfl (by first | assumption | rfl) ?_
  refine wv_lor dX3_goOn_8 ?_
  refine wv_aload_n dX3_goOn_9 rfl ?_
  refine wv_getL fX3_52 dX3_goOn_10 rfl (by first | assumption | rfl) ?_
  refine wv_lor dX3_goOn_13 ?_
  refine wv_aload_n dX3_goOn_14 rfl ?_
  refine wv_getL fX3_55 dX3_goOn_15 rfl (by first | assumption | rfl) ?_
  refine wv_lor dX3_goOn_18 ?_
  refine wv_lstore_k (i := 1) dX3_goOn_19 rfl (by decide) ?_
  refine wv_aload_n dX3_goOn_20 rfl ?_
  refine wv_v0 oX3_thoseWhoSee kX3_62 dX3_goOn_21 (by omega) (by first | assumption | rfl) ⟨rfl, by decide⟩ (Nat.le_of_ble_eq_true rfl) (Nat.le_of_ble_eq_true rfl) (cP_see q t a g hq ht hV hT ha hL) (fun v9 s9 J9 L9 R9 h9 => ?_)
  obtain ⟨⟨x, rfl, hx⟩, rfl, rfl, rfl, rfl⟩ := h9
  refine wv_lload_n dX3_goOn_24 rfl ?_
  refine wv_aload_n dX3_goOn_25 rfl ?_
  refine wv_getR fX3_7 dX3_goOn_26 rfl (by first | assumption | rfl) (by first | exact hR _ _ _ rfl | assumption) ?_
  refine wv_getL fX3_65 dX3_goOn_29 rfl (by first | assumption | rfl) ?_
  refine wv_lor dX3_goOn_32 ?_
  refine wv_aload_n dX3_goOn_33 rfl ?_
  refine wv_getR fX3_7 dX3_goOn_34 rfl (by first | assumption | rfl) (by first | exact hR _ _ _ rfl | assumption) ?_
  refine wv_getL fX3_68 dX3_goOn_37 rfl (by first | assumption | rfl) ?_
  refine wv_lor dX3_goOn_40 ?_
  refine wv_ldc2_w nX3_71 dX3_goOn_41 ?_
  refine wv_lxor dX3_goOn_44 ?_
  refine wv_land dX3_goOn_45 ?_
  refine wv_lstore_k (i := 3) dX3_goOn_46 rfl (by decide) ?_
  refine wv_aload_n dX3_goOn_47 rfl ?_
  refine wv_getI fX3_17 dX3_goOn_48 rfl (by first | assumption | rfl) ?_
  refine wv_iconst (v := 1) dX3_goOn_51 (by decide) ?_
  refine wv_icmp_ne (tgt := 62) dX3_goOn_52 (by decide) (fun h52 => ?_) (fun h52 => absurd h52 (by rw [hup]; decide))
  refine wv_aload_n dX3_goOn_62 rfl ?_
  refine wv_getI fX3_17 dX3_goOn_63 rfl (by first | assumption | rfl) ?_
  refine wv_iconst (v := 2) dX3_goOn_66 (by decide) ?_
  refine wv_icmp_ne (tgt := 77) dX3_goOn_67 (by decide) (fun h67 => absurd (by rw [hup]; rfl) h67) (fun h67 => ?_)
  refine wv_aload_n dX3_goOn_70 rfl ?_
  refine wv_getL fX3_43 dX3_goOn_71 rfl (by first | assumption | rfl) ?_
  refine wv_goto (tgt := 81) dX3_goOn_74 (by decide) ?_
  refine wv_lstore dX3_goOn_81 (by decide) ?_
  refine wv_aload_n dX3_goOn_83 rfl ?_
  refine wv_aload_n dX3_goOn_84 rfl ?_
  refine wv_getI fX3_13 dX3_goOn_85 rfl (by first | assumption | rfl) ?_
  refine wv_iconst (v := 2) dX3_goOn_88 (by decide) ?_
  refine wv_icmp_le (tgt := 99) dX3_goOn_89 (by decide) (fun h89 => ?_) (fun h89 => absurd (by rw [hre]; decide) h89)
  refine wv_lconst (v := 0) dX3_goOn_99 (by decide) ?_
  refine wv_putL fX3_55 dX3_goOn_100 rfl rfl rfl rfl (by first | assumption | rfl) ?_
  refine wv_aload_n dX3_goOn_103 rfl ?_
  refine wv_aload_n dX3_goOn_104 rfl ?_
  refine wv_getI fX3_13 dX3_goOn_105 rfl (by first | assumption | rfl) ?_
  refine wv_iconst (v := 1) dX3_goOn_108 (by decide) ?_
  refine wv_icmp_le (tgt := 119) dX3_goOn_109 (by decide) (fun h109 => ?_) (fun h109 => absurd (by rw [hre]; decide) h109)
  refine wv_lconst (v := 0) dX3_goOn_119 (by decide) ?_
  refine wv_putL fX3_52 dX3_goOn_120 rfl rfl rfl rfl (by first | assumption | rfl) ?_
  refine wv_aload_n dX3_goOn_123 rfl ?_
  refine wv_aload_n dX3_goOn_124 rfl ?_
  refine wv_getI fX3_13 dX3_goOn_125 rfl (by first | assumption | rfl) ?_
  refine wv_if_le (tgt := 136) dX3_goOn_128 (by decide) (fun h128 => ?_) (fun h128 => absurd (by rw [hre]; decide) h128)
  refine wv_lconst (v := 0) dX3_goOn_136 (by decide) ?_
  refine wv_putL fX3_49 dX3_goOn_137 rfl rfl rfl rfl (by first | assumption | rfl) ?_
  refine wv_aload_n dX3_goOn_140 rfl ?_
  refine wv_aload_n dX3_goOn_141 rfl ?_
  refine wv_getI fX3_17 dX3_goOn_142 rfl (by first | assumption | rfl) ?_
  refine wv_iconst (v := 2) dX3_goOn_145 (by decide) ?_
  refine wv_icmp_le (tgt := 156) dX3_goOn_146 (by decide) (fun h146 => ?_) (fun h146 => absurd (by rw [hup]; decide) h146)
  refine wv_lconst (v := 0) dX3_goOn_156 (by decide) ?_
  refine wv_putL fX3_46 dX3_goOn_157 rfl rfl rfl rfl (by first | assumption | rfl) ?_
  refine wv_aload_n dX3_goOn_160 rfl ?_
  refine wv_aload_n dX3_goOn_161 rfl ?_
  refine wv_getI fX3_17 dX3_goOn_162 rfl (by first | assumption | rfl) ?_
  refine wv_iconst (v := 1) dX3_goOn_165 (by decide) ?_
  refine wv_icmp_le (tgt := 176) dX3_goOn_166 (by decide) (fun h166 => absurd h166 (by rw [hup]; decide)) (fun h166 => ?_)
  refine wv_aload_n dX3_goOn_169 rfl ?_
  refine wv_getL fX3_39 dX3_goOn_170 rfl (by first | assumption | rfl) ?_
  refine wv_goto (tgt := 177) dX3_goOn_173 (by decide) ?_
  refine wv_putL fX3_43 dX3_goOn_177 rfl rfl rfl rfl (by first | assumption | rfl) ?_
  refine wv_aload_n dX3_goOn_180 rfl ?_
  refine wv_lload_n dX3_goOn_181 rfl ?_
  refine wv_putL fX3_39 dX3_goOn_182 rfl rfl rfl rfl (by first | assumption | rfl) ?_
  refine wv_ret (x := ()) rfl dX3_goOn_185 ?_
  refine ⟨rfl, rfl, rfl, rfl, x, hx, ?_⟩
  funext b d
  by_cases hb : b = q
  · subst hb
    by_cases h7 : d = 7
    · subst h7; simp [wr_uL, goL]
    · by_cases h8 : d = 8
      · subst h8; simp [wr_uL, goL]
      · by_cases h9 : d = 9
        · subst h9; simp [wr_uL, goL]
        · by_cases h10 : d = 10
          · subst h10; simp [wr_uL, goL]
          · by_cases h11 : d = 11
            · subst h11; simp [wr_uL, goL]
            · by_cases h12 : d = 12
              · subst h12; simp [wr_uL, goL]
              · simp [wr_uL, goL, h7, h8, h9, h10, h11, h12]
  · simp [wr_uL, goL, hb]

set_option maxHeartbeats 4000000 in
set_option maxRecDepth 100000 in
theorem cP_go21 {l : Launch} {I : wr_TI} {L : wr_TL} {R : wr_TR} (q t a : Nat) (g : RG) (hq : SH[q]? = some (.inr 3)) (ht : SH[t]? = some (.inr 5)) (hqt : t ≠ q) (hV : rgV I L t g) (hT : plT I R q t a g) (ha : a < 324) (hL : ∀ s, gN g ≤ s → lb (L q 7) s = false) (hu : a / 4 % 3 + 1 = 2) (hr : a % 4 = 1) : wr_P l 3 mX3_goOn [.ref q] SH I L R (fun v s' I' L' R' => v = none ∧ s' = SH ∧ I' = I ∧ R' = R ∧ ∃ x, (∀ s, s < 64 → lb x s = (decide (s < gN g) && decide (a / 12 % 3 + 1 ≤ ck g a (lb (L q 7)) (2 * pm g a) s))) ∧ L' = goL L q 2 1 (x &&& ((L q 7 ||| L q 8 ||| L q 9 ||| L q 10 ||| L q 11 ||| L q 12 ||| L t 6 ||| L t 7) ^^^ (-1)))) := by
  have hr0 := hT.1
  have hup : I q 5 = nI 2 := by rw [hT.2.2.2.2.2.1, hu]
  have hre : I q 6 = nI 1 := by rw [hT.2.2.2.2.2.2, hr]
  refine wv_pad 6 ?_
  show wr_V l 3 mX3_goOn 0 [some (.ref q), none, none, none, none, none, none] [] SH I L R 0 0 _
  refine wv_aload_n dX3_goOn_0 rfl ?_
  refine wv_v0e oX3_allUp kX3_58 dX3_goOn_1 (by omega) (by first | assumption | rfl) ⟨rfl, by decide⟩ (Nat.le_of_ble_eq_true rfl) (Nat.le_of_ble_eq_true rfl) (cP_allUp q hq) ?_
  refine wv_aload_n dX3_goOn_4 rfl ?_
  refine wv_getL fX3_49 dX3_goOn_5 rfl (by first | assumption | rfl) ?_
  refine wv_lor dX3_goOn_8 ?_
  refine wv_aload_n dX3_goOn_9 rfl ?_
  refine wv_getL fX3_52 dX3_goOn_10 rfl (by first | assumption | rfl) ?_
  refine wv_lor dX3_goOn_13 ?_
  refine wv_aload_n dX3_goOn_14 rfl ?_
  refine wv_getL fX3_55 dX3_goOn_15 rfl (by first | assumption | rfl) ?_
  refine wv_lor dX3_goOn_18 ?_
  refine wv_lstore_k (i := 1) dX3_goOn_19 rfl (by decide) ?_
  refine wv_aload_n dX3_goOn_20 rfl ?_
  refine wv_v0 oX3_thoseWhoSee kX3_62 dX3_goOn_21 (by omega) (by first | assumption | rfl) ⟨rfl, by decide⟩ (Nat.le_of_ble_eq_true rfl) (Nat.le_of_ble_eq_true rfl) (cP_see q t a g hq ht hV hT ha hL) (fun v9 s9 J9 L9 R9 h9 => ?_)
  obtain ⟨⟨x, rfl, hx⟩, rfl, rfl, rfl, rfl⟩ := h9
  refine wv_lload_n dX3_goOn_24 rfl ?_
  refine wv_aload_n dX3_goOn_25 rfl ?_
  refine wv_getR fX3_7 dX3_goOn_26 rfl (by first | assumption | rfl) (by first | exact hR _ _ _ rfl | assumption) ?_
  refine wv_getL fX3_65 dX3_goOn_29 rfl (by first | assumption | rfl) ?_
  refine wv_lor dX3_goOn_32 ?_
  refine wv_aload_n dX3_goOn_33 rfl ?_
  refine wv_getR fX3_7 dX3_goOn_34 rfl (by first | assumption | rfl) (by first | exact hR _ _ _ rfl | assumption) ?_
  refine wv_getL fX3_68 dX3_goOn_37 rfl (by first | assumption | rfl) ?_
  refine wv_lor dX3_goOn_40 ?_
  refine wv_ldc2_w nX3_71 dX3_goOn_41 ?_
  refine wv_lxor dX3_goOn_44 ?_
  refine wv_land dX3_goOn_45 ?_
  refine wv_lstore_k (i := 3) dX3_goOn_46 rfl (by decide) ?_
  refine wv_aload_n dX3_goOn_47 rfl ?_
  refine wv_getI fX3_17 dX3_goOn_48 rfl (by first | assumption | rfl) ?_
  refine wv_iconst (v := 1) dX3_goOn_51 (by decide) ?_
  refine wv_icmp_ne (tgt := 62) dX3_goOn_52 (by decide) (fun h52 => ?_) (fun h52 => absurd h52 (by rw [hup]; decide))
  refine wv_aload_n dX3_goOn_62 rfl ?_
  refine wv_getI fX3_17 dX3_goOn_63 rfl (by first | assumption | rfl) ?_
  refine wv_iconst (v := 2) dX3_goOn_66 (by decide) ?_
  refine wv_icmp_ne (tgt := 77) dX3_goOn_67 (by decide) (fun h67 => absurd (by rw [hup]; rfl) h67) (fun h67 => ?_)
  refine wv_aload_n dX3_goOn_70 rfl ?_
  refine wv_getL fX3_43 dX3_goOn_71 rfl (by first | assumption | rfl) ?_
  refine wv_goto (tgt := 81) dX3_goOn_74 (by decide) ?_
  refine wv_lstore dX3_goOn_81 (by decide) ?_
  refine wv_aload_n dX3_goOn_83 rfl ?_
  refine wv_aload_n dX3_goOn_84 rfl ?_
  refine wv_getI fX3_13 dX3_goOn_85 rfl (by first | assumption | rfl) ?_
  refine wv_iconst (v := 2) dX3_goOn_88 (by decide) ?_
  refine wv_icmp_le (tgt := 99) dX3_goOn_89 (by decide) (fun h89 => ?_) (fun h89 => absurd (by rw [hre]; decide) h89)
  refine wv_lconst (v := 0) dX3_goOn_99 (by decide) ?_
  refine wv_putL fX3_55 dX3_goOn_100 rfl rfl rfl rfl (by first | assumption | rfl) ?_
  refine wv_aload_n dX3_goOn_103 rfl ?_
  refine wv_aload_n dX3_goOn_104 rfl ?_
  refine wv_getI fX3_13 dX3_goOn_105 rfl (by first | assumption | rfl) ?_
  refine wv_iconst (v := 1) dX3_goOn_108 (by decide) ?_
  refine wv_icmp_le (tgt := 119) dX3_goOn_109 (by decide) (fun h109 => ?_) (fun h109 => absurd (by rw [hre]; decide) h109)
  refine wv_lconst (v := 0) dX3_goOn_119 (by decide) ?_
  refine wv_putL fX3_52 dX3_goOn_120 rfl rfl rfl rfl (by first | assumption | rfl) ?_
  refine wv_aload_n dX3_goOn_123 rfl ?_
  refine wv_aload_n dX3_goOn_124 rfl ?_
  refine wv_getI fX3_13 dX3_goOn_125 rfl (by first | assumption | rfl) ?_
  refine wv_if_le (tgt := 136) dX3_goOn_128 (by decide) (fun h128 => absurd h128 (by rw [hre]; decide)) (fun h128 => ?_)
  refine wv_lload dX3_goOn_131 rfl ?_
  refine wv_goto (tgt := 137) dX3_goOn_133 (by decide) ?_
  refine wv_putL fX3_49 dX3_goOn_137 rfl rfl rfl rfl (by first | assumption | rfl) ?_
  refine wv_aload_n dX3_goOn_140 rfl ?_
  refine wv_aload_n dX3_goOn_141 rfl ?_
  refine wv_getI fX3_17 dX3_goOn_142 rfl (by first | assumption | rfl) ?_
  refine wv_iconst (v := 2) dX3_goOn_145 (by decide) ?_
  refine wv_icmp_le (tgt := 156) dX3_goOn_146 (by decide) (fun h146 => ?_) (fun h146 => absurd (by rw [hup]; decide) h146)
  refine wv_lconst (v := 0) dX3_goOn_156 (by decide) ?_
  refine wv_putL fX3_46 dX3_goOn_157 rfl rfl rfl rfl (by first | assumption | rfl) ?_
  refine wv_aload_n dX3_goOn_160 rfl ?_
  refine wv_aload_n dX3_goOn_161 rfl ?_
  refine wv_getI fX3_17 dX3_goOn_162 rfl (by first | assumption | rfl) ?_
  refine wv_iconst (v := 1) dX3_goOn_165 (by decide) ?_
  refine wv_icmp_le (tgt := 176) dX3_goOn_166 (by decide) (fun h166 => absurd h166 (by rw [hup]; decide)) (fun h166 => ?_)
  refine wv_aload_n dX3_goOn_169 rfl ?_
  refine wv_getL fX3_39 dX3_goOn_170 rfl (by first | assumption | rfl) ?_
  refine wv_goto (tgt := 177) dX3_goOn_173 (by decide) ?_
  refine wv_putL fX3_43 dX3_goOn_177 rfl rfl rfl rfl (by first | assumption | rfl) ?_
  refine wv_aload_n dX3_goOn_180 rfl ?_
  refine wv_lload_n dX3_goOn_181 rfl ?_
  refine wv_putL fX3_39 dX3_goOn_182 rfl rfl rfl rfl (by first | assumption | rfl) ?_
  refine wv_ret (x := ()) rfl dX3_goOn_185 ?_
  refine ⟨rfl, rfl, rfl, rfl, x, hx, ?_⟩
  funext b d
  by_cases hb : b = q
  · subst hb
    by_cases h7 : d = 7
    · subst h7; simp [wr_uL, goL]
    · by_cases h8 : d = 8
      · subst h8; simp [wr_uL, goL]
      · by_cases h9 : d = 9
        · subst h9; simp [wr_uL, goL]
        · by_cases h10 : d = 10
          · subst h10; simp [wr_uL, goL]
          · by_cases h11 : d = 11
            · subst h11; simp [wr_uL, goL]
            · by_cases h12 : d = 12
              · subst h12; simp [wr_uL, goL]
              · simp [wr_uL, goL, h7, h8, h9, h10, h11, h12]
  · simp [wr_uL, goL, hb]

set_option maxHeartbeats 4000000 in
set_option maxRecDepth 100000 in
theorem cP_go22 {l : Launch} {I : wr_TI} {L : wr_TL} {R : wr_TR} (q t a : Nat) (g : RG) (hq : SH[q]? = some (.inr 3)) (ht : SH[t]? = some (.inr 5)) (hqt : t ≠ q) (hV : rgV I L t g) (hT : plT I R q t a g) (ha : a < 324) (hL : ∀ s, gN g ≤ s → lb (L q 7) s = false) (hu : a / 4 % 3 + 1 = 2) (hr : a % 4 = 2) : wr_P l 3 mX3_goOn [.ref q] SH I L R (fun v s' I' L' R' => v = none ∧ s' = SH ∧ I' = I ∧ R' = R ∧ ∃ x, (∀ s, s < 64 → lb x s = (decide (s < gN g) && decide (a / 12 % 3 + 1 ≤ ck g a (lb (L q 7)) (2 * pm g a) s))) ∧ L' = goL L q 2 2 (x &&& ((L q 7 ||| L q 8 ||| L q 9 ||| L q 10 ||| L q 11 ||| L q 12 ||| L t 6 ||| L t 7) ^^^ (-1)))) := by
  have hr0 := hT.1
  have hup : I q 5 = nI 2 := by rw [hT.2.2.2.2.2.1, hu]
  have hre : I q 6 = nI 2 := by rw [hT.2.2.2.2.2.2, hr]
  refine wv_pad 6 ?_
  show wr_V l 3 mX3_goOn 0 [some (.ref q), none, none, none, none, none, none] [] SH I L R 0 0 _
  refine wv_aload_n dX3_goOn_0 rfl ?_
  refine wv_v0e oX3_allUp kX3_58 dX3_goOn_1 (by omega) (by first | assumption | rfl) ⟨rfl, by decide⟩ (Nat.le_of_ble_eq_true rfl) (Nat.le_of_ble_eq_true rfl) (cP_allUp q hq) ?_
  refine wv_aload_n dX3_goOn_4 rfl ?_
  refine wv_getL fX3_49 dX3_goOn_5 rfl (by first | assumption | rfl) ?_
  refine wv_lor dX3_goOn_8 ?_
  refine wv_aload_n dX3_goOn_9 rfl ?_
  refine wv_getL fX3_52 dX3_goOn_10 rfl (by first | assumption | rfl) ?_
  refine wv_lor dX3_goOn_13 ?_
  refine wv_aload_n dX3_goOn_14 rfl ?_
  refine wv_getL fX3_55 dX3_goOn_15 rfl (by first | assumption | rfl) ?_
  refine wv_lor dX3_goOn_18 ?_
  refine wv_lstore_k (i := 1) dX3_goOn_19 rfl (by decide) ?_
  refine wv_aload_n dX3_goOn_20 rfl ?_
  refine wv_v0 oX3_thoseWhoSee kX3_62 dX3_goOn_21 (by omega) (by first | assumption | rfl) ⟨rfl, by decide⟩ (Nat.le_of_ble_eq_true rfl) (Nat.le_of_ble_eq_true rfl) (cP_see q t a g hq ht hV hT ha hL) (fun v9 s9 J9 L9 R9 h9 => ?_)
  obtain ⟨⟨x, rfl, hx⟩, rfl, rfl, rfl, rfl⟩ := h9
  refine wv_lload_n dX3_goOn_24 rfl ?_
  refine wv_aload_n dX3_goOn_25 rfl ?_
  refine wv_getR fX3_7 dX3_goOn_26 rfl (by first | assumption | rfl) (by first | exact hR _ _ _ rfl | assumption) ?_
  refine wv_getL fX3_65 dX3_goOn_29 rfl (by first | assumption | rfl) ?_
  refine wv_lor dX3_goOn_32 ?_
  refine wv_aload_n dX3_goOn_33 rfl ?_
  refine wv_getR fX3_7 dX3_goOn_34 rfl (by first | assumption | rfl) (by first | exact hR _ _ _ rfl | assumption) ?_
  refine wv_getL fX3_68 dX3_goOn_37 rfl (by first | assumption | rfl) ?_
  refine wv_lor dX3_goOn_40 ?_
  refine wv_ldc2_w nX3_71 dX3_goOn_41 ?_
  refine wv_lxor dX3_goOn_44 ?_
  refine wv_land dX3_goOn_45 ?_
  refine wv_lstore_k (i := 3) dX3_goOn_46 rfl (by decide) ?_
  refine wv_aload_n dX3_goOn_47 rfl ?_
  refine wv_getI fX3_17 dX3_goOn_48 rfl (by first | assumption | rfl) ?_
  refine wv_iconst (v := 1) dX3_goOn_51 (by decide) ?_
  refine wv_icmp_ne (tgt := 62) dX3_goOn_52 (by decide) (fun h52 => ?_) (fun h52 => absurd h52 (by rw [hup]; decide))
  refine wv_aload_n dX3_goOn_62 rfl ?_
  refine wv_getI fX3_17 dX3_goOn_63 rfl (by first | assumption | rfl) ?_
  refine wv_iconst (v := 2) dX3_goOn_66 (by decide) ?_
  refine wv_icmp_ne (tgt := 77) dX3_goOn_67 (by decide) (fun h67 => absurd (by rw [hup]; rfl) h67) (fun h67 => ?_)
  refine wv_aload_n dX3_goOn_70 rfl ?_
  refine wv_getL fX3_43 dX3_goOn_71 rfl (by first | assumption | rfl) ?_
  refine wv_goto (tgt := 81) dX3_goOn_74 (by decide) ?_
  refine wv_lstore dX3_goOn_81 (by decide) ?_
  refine wv_aload_n dX3_goOn_83 rfl ?_
  refine wv_aload_n dX3_goOn_84 rfl ?_
  refine wv_getI fX3_13 dX3_goOn_85 rfl (by first | assumption | rfl) ?_
  refine wv_iconst (v := 2) dX3_goOn_88 (by decide) ?_
  refine wv_icmp_le (tgt := 99) dX3_goOn_89 (by decide) (fun h89 => ?_) (fun h89 => absurd (by rw [hre]; decide) h89)
  refine wv_lconst (v := 0) dX3_goOn_99 (by decide) ?_
  refine wv_putL fX3_55 dX3_goOn_100 rfl rfl rfl rfl (by first | assumption | rfl) ?_
  refine wv_aload_n dX3_goOn_103 rfl ?_
  refine wv_aload_n dX3_goOn_104 rfl ?_
  refine wv_getI fX3_13 dX3_goOn_105 rfl (by first | assumption | rfl) ?_
  refine wv_iconst (v := 1) dX3_goOn_108 (by decide) ?_
  refine wv_icmp_le (tgt := 119) dX3_goOn_109 (by decide) (fun h109 => absurd h109 (by rw [hre]; decide)) (fun h109 => ?_)
  refine wv_aload_n dX3_goOn_112 rfl ?_
  refine wv_getL fX3_49 dX3_goOn_113 rfl (by first | assumption | rfl) ?_
  refine wv_goto (tgt := 120) dX3_goOn_116 (by decide) ?_
  refine wv_putL fX3_52 dX3_goOn_120 rfl rfl rfl rfl (by first | assumption | rfl) ?_
  refine wv_aload_n dX3_goOn_123 rfl ?_
  refine wv_aload_n dX3_goOn_124 rfl ?_
  refine wv_getI fX3_13 dX3_goOn_125 rfl (by first | assumption | rfl) ?_
  refine wv_if_le (tgt := 136) dX3_goOn_128 (by decide) (fun h128 => absurd h128 (by rw [hre]; decide)) (fun h128 => ?_)
  refine wv_lload dX3_goOn_131 rfl ?_
  refine wv_goto (tgt := 137) dX3_goOn_133 (by decide) ?_
  refine wv_putL fX3_49 dX3_goOn_137 rfl rfl rfl rfl (by first | assumption | rfl) ?_
  refine wv_aload_n dX3_goOn_140 rfl ?_
  refine wv_aload_n dX3_goOn_141 rfl ?_
  refine wv_getI fX3_17 dX3_goOn_142 rfl (by first | assumption | rfl) ?_
  refine wv_iconst (v := 2) dX3_goOn_145 (by decide) ?_
  refine wv_icmp_le (tgt := 156) dX3_goOn_146 (by decide) (fun h146 => ?_) (fun h146 => absurd (by rw [hup]; decide) h146)
  refine wv_lconst (v := 0) dX3_goOn_156 (by decide) ?_
  refine wv_putL fX3_46 dX3_goOn_157 rfl rfl rfl rfl (by first | assumption | rfl) ?_
  refine wv_aload_n dX3_goOn_160 rfl ?_
  refine wv_aload_n dX3_goOn_161 rfl ?_
  refine wv_getI fX3_17 dX3_goOn_162 rfl (by first | assumption | rfl) ?_
  refine wv_iconst (v := 1) dX3_goOn_165 (by decide) ?_
  refine wv_icmp_le (tgt := 176) dX3_goOn_166 (by decide) (fun h166 => absurd h166 (by rw [hup]; decide)) (fun h166 => ?_)
  refine wv_aload_n dX3_goOn_169 rfl ?_
  refine wv_getL fX3_39 dX3_goOn_170 rfl (by first | assumption | rfl) ?_
  refine wv_goto (tgt := 177) dX3_goOn_173 (by decide) ?_
  refine wv_putL fX3_43 dX3_goOn_177 rfl rfl rfl rfl (by first | assumption | rfl) ?_
  refine wv_aload_n dX3_goOn_180 rfl ?_
  refine wv_lload_n dX3_goOn_181 rfl ?_
  refine wv_putL fX3_39 dX3_goOn_182 rfl rfl rfl rfl (by first | assumption | rfl) ?_
  refine wv_ret (x := ()) rfl dX3_goOn_185 ?_
  refine ⟨rfl, rfl, rfl, rfl, x, hx, ?_⟩
  funext b d
  by_cases hb : b = q
  · subst hb
    by_cases h7 : d = 7
    · subst h7; simp [wr_uL, goL]
    · by_cases h8 : d = 8
      · subst h8; simp [wr_uL, goL]
      · by_cases h9 : d = 9
        · subst h9; simp [wr_uL, goL]
        · by_cases h10 : d = 10
          · subst h10; simp [wr_uL, goL]
          · by_cases h11 : d = 11
            · subst h11; simp [wr_uL, goL]
            · by_cases h12 : d = 12
              · subst h12; simp [wr_uL, goL]
              · simp [wr_uL, goL, h7, h8, h9, h10, h11, h12]
  · simp [wr_uL, goL, hb]

set_option maxHeartbeats 4000000 in
set_option maxRecDepth 100000 in
theorem cP_go23 {l : Launch} {I : wr_TI} {L : wr_TL} {R : wr_TR} (q t a : Nat) (g : RG) (hq : SH[q]? = some (.inr 3)) (ht : SH[t]? = some (.inr 5)) (hqt : t ≠ q) (hV : rgV I L t g) (hT : plT I R q t a g) (ha : a < 324) (hL : ∀ s, gN g ≤ s → lb (L q 7) s = false) (hu : a / 4 % 3 + 1 = 2) (hr : a % 4 = 3) : wr_P l 3 mX3_goOn [.ref q] SH I L R (fun v s' I' L' R' => v = none ∧ s' = SH ∧ I' = I ∧ R' = R ∧ ∃ x, (∀ s, s < 64 → lb x s = (decide (s < gN g) && decide (a / 12 % 3 + 1 ≤ ck g a (lb (L q 7)) (2 * pm g a) s))) ∧ L' = goL L q 2 3 (x &&& ((L q 7 ||| L q 8 ||| L q 9 ||| L q 10 ||| L q 11 ||| L q 12 ||| L t 6 ||| L t 7) ^^^ (-1)))) := by
  have hr0 := hT.1
  have hup : I q 5 = nI 2 := by rw [hT.2.2.2.2.2.1, hu]
  have hre : I q 6 = nI 3 := by rw [hT.2.2.2.2.2.2, hr]
  refine wv_pad 6 ?_
  show wr_V l 3 mX3_goOn 0 [some (.ref q), none, none, none, none, none, none] [] SH I L R 0 0 _
  refine wv_aload_n dX3_goOn_0 rfl ?_
  refine wv_v0e oX3_allUp kX3_58 dX3_goOn_1 (by omega) (by first | assumption | rfl) ⟨rfl, by decide⟩ (Nat.le_of_ble_eq_true rfl) (Nat.le_of_ble_eq_true rfl) (cP_allUp q hq) ?_
  refine wv_aload_n dX3_goOn_4 rfl ?_
  refine wv_getL fX3_49 dX3_goOn_5 rfl (by first | assumption | rfl) ?_
  refine wv_lor dX3_goOn_8 ?_
  refine wv_aload_n dX3_goOn_9 rfl ?_
  refine wv_getL fX3_52 dX3_goOn_10 rfl (by first | assumption | rfl) ?_
  refine wv_lor dX3_goOn_13 ?_
  refine wv_aload_n dX3_goOn_14 rfl ?_
  refine wv_getL fX3_55 dX3_goOn_15 rfl (by first | assumption | rfl) ?_
  refine wv_lor dX3_goOn_18 ?_
  refine wv_lstore_k (i := 1) dX3_goOn_19 rfl (by decide) ?_
  refine wv_aload_n dX3_goOn_20 rfl ?_
  refine wv_v0 oX3_thoseWhoSee kX3_62 dX3_goOn_21 (by omega) (by first | assumption | rfl) ⟨rfl, by decide⟩ (Nat.le_of_ble_eq_true rfl) (Nat.le_of_ble_eq_true rfl) (cP_see q t a g hq ht hV hT ha hL) (fun v9 s9 J9 L9 R9 h9 => ?_)
  obtain ⟨⟨x, rfl, hx⟩, rfl, rfl, rfl, rfl⟩ := h9
  refine wv_lload_n dX3_goOn_24 rfl ?_
  refine wv_aload_n dX3_goOn_25 rfl ?_
  refine wv_getR fX3_7 dX3_goOn_26 rfl (by first | assumption | rfl) (by first | exact hR _ _ _ rfl | assumption) ?_
  refine wv_getL fX3_65 dX3_goOn_29 rfl (by first | assumption | rfl) ?_
  refine wv_lor dX3_goOn_32 ?_
  refine wv_aload_n dX3_goOn_33 rfl ?_
  refine wv_getR fX3_7 dX3_goOn_34 rfl (by first | assumption | rfl) (by first | exact hR _ _ _ rfl | assumption) ?_
  refine wv_getL fX3_68 dX3_goOn_37 rfl (by first | assumption | rfl) ?_
  refine wv_lor dX3_goOn_40 ?_
  refine wv_ldc2_w nX3_71 dX3_goOn_41 ?_
  refine wv_lxor dX3_goOn_44 ?_
  refine wv_land dX3_goOn_45 ?_
  refine wv_lstore_k (i := 3) dX3_goOn_46 rfl (by decide) ?_
  refine wv_aload_n dX3_goOn_47 rfl ?_
  refine wv_getI fX3_17 dX3_goOn_48 rfl (by first | assumption | rfl) ?_
  refine wv_iconst (v := 1) dX3_goOn_51 (by decide) ?_
  refine wv_icmp_ne (tgt := 62) dX3_goOn_52 (by decide) (fun h52 => ?_) (fun h52 => absurd h52 (by rw [hup]; decide))
  refine wv_aload_n dX3_goOn_62 rfl ?_
  refine wv_getI fX3_17 dX3_goOn_63 rfl (by first | assumption | rfl) ?_
  refine wv_iconst (v := 2) dX3_goOn_66 (by decide) ?_
  refine wv_icmp_ne (tgt := 77) dX3_goOn_67 (by decide) (fun h67 => absurd (by rw [hup]; rfl) h67) (fun h67 => ?_)
  refine wv_aload_n dX3_goOn_70 rfl ?_
  refine wv_getL fX3_43 dX3_goOn_71 rfl (by first | assumption | rfl) ?_
  refine wv_goto (tgt := 81) dX3_goOn_74 (by decide) ?_
  refine wv_lstore dX3_goOn_81 (by decide) ?_
  refine wv_aload_n dX3_goOn_83 rfl ?_
  refine wv_aload_n dX3_goOn_84 rfl ?_
  refine wv_getI fX3_13 dX3_goOn_85 rfl (by first | assumption | rfl) ?_
  refine wv_iconst (v := 2) dX3_goOn_88 (by decide) ?_
  refine wv_icmp_le (tgt := 99) dX3_goOn_89 (by decide) (fun h89 => absurd h89 (by rw [hre]; decide)) (fun h89 => ?_)
  refine wv_aload_n dX3_goOn_92 rfl ?_
  refine wv_getL fX3_52 dX3_goOn_93 rfl (by first | assumption | rfl) ?_
  refine wv_goto (tgt := 100) dX3_goOn_96 (by decide) ?_
  refine wv_putL fX3_55 dX3_goOn_100 rfl rfl rfl rfl (by first | assumption | rfl) ?_
  refine wv_aload_n dX3_goOn_103 rfl ?_
  refine wv_aload_n dX3_goOn_104 rfl ?_
  refine wv_getI fX3_13 dX3_goOn_105 rfl (by first | assumption | rfl) ?_
  refine wv_iconst (v := 1) dX3_goOn_108 (by decide) ?_
  refine wv_icmp_le (tgt := 119) dX3_goOn_109 (by decide) (fun h109 => absurd h109 (by rw [hre]; decide)) (fun h109 => ?_)
  refine wv_aload_n dX3_goOn_112 rfl ?_
  refine wv_getL fX3_49 dX3_goOn_113 rfl (by first | assumption | rfl) ?_
  refine wv_goto (tgt := 120) dX3_goOn_116 (by decide) ?_
  refine wv_putL fX3_52 dX3_goOn_120 rfl rfl rfl rfl (by first | assumption | rfl) ?_
  refine wv_aload_n dX3_goOn_123 rfl ?_
  refine wv_aload_n dX3_goOn_124 rfl ?_
  refine wv_getI fX3_13 dX3_goOn_125 rfl (by first | assumption | rfl) ?_
  refine wv_if_le (tgt := 136) dX3_goOn_128 (by decide) (fun h128 => absurd h128 (by rw [hre]; decide)) (fun h128 => ?_)
  refine wv_lload dX3_goOn_131 rfl ?_
  refine wv_goto (tgt := 137) dX3_goOn_133 (by decide) ?_
  refine wv_putL fX3_49 dX3_goOn_137 rfl rfl rfl rfl (by first | assumption | rfl) ?_
  refine wv_aload_n dX3_goOn_140 rfl ?_
  refine wv_aload_n dX3_goOn_141 rfl ?_
  refine wv_getI fX3_17 dX3_goOn_142 rfl (by first | assumption | rfl) ?_
  refine wv_iconst (v := 2) dX3_goOn_145 (by decide) ?_
  refine wv_icmp_le (tgt := 156) dX3_goOn_146 (by decide) (fun h146 => ?_) (fun h146 => absurd (by rw [hup]; decide) h146)
  refine wv_lconst (v := 0) dX3_goOn_156 (by decide) ?_
  refine wv_putL fX3_46 dX3_goOn_157 rfl rfl rfl rfl (by first | assumption | rfl) ?_
  refine wv_aload_n dX3_goOn_160 rfl ?_
  refine wv_aload_n dX3_goOn_161 rfl ?_
  refine wv_getI fX3_17 dX3_goOn_162 rfl (by first | assumption | rfl) ?_
  refine wv_iconst (v := 1) dX3_goOn_165 (by decide) ?_
  refine wv_icmp_le (tgt := 176) dX3_goOn_166 (by decide) (fun h166 => absurd h166 (by rw [hup]; decide)) (fun h166 => ?_)
  refine wv_aload_n dX3_goOn_169 rfl ?_
  refine wv_getL fX3_39 dX3_goOn_170 rfl (by first | assumption | rfl) ?_
  refine wv_goto (tgt := 177) dX3_goOn_173 (by decide) ?_
  refine wv_putL fX3_43 dX3_goOn_177 rfl rfl rfl rfl (by first | assumption | rfl) ?_
  refine wv_aload_n dX3_goOn_180 rfl ?_
  refine wv_lload_n dX3_goOn_181 rfl ?_
  refine wv_putL fX3_39 dX3_goOn_182 rfl rfl rfl rfl (by first | assumption | rfl) ?_
  refine wv_ret (x := ()) rfl dX3_goOn_185 ?_
  refine ⟨rfl, rfl, rfl, rfl, x, hx, ?_⟩
  funext b d
  by_cases hb : b = q
  · subst hb
    by_cases h7 : d = 7
    · subst h7; simp [wr_uL, goL]
    · by_cases h8 : d = 8
      · subst h8; simp [wr_uL, goL]
      · by_cases h9 : d = 9
        · subst h9; simp [wr_uL, goL]
        · by_cases h10 : d = 10
          · subst h10; simp [wr_uL, goL]
          · by_cases h11 : d = 11
            · subst h11; simp [wr_uL, goL]
            · by_cases h12 : d = 12
              · subst h12; simp [wr_uL, goL]
              · simp [wr_uL, goL, h7, h8, h9, h10, h11, h12]
  · simp [wr_uL, goL, hb]

set_option maxHeartbeats 4000000 in
set_option maxRecDepth 100000 in
theorem cP_go30 {l : Launch} {I : wr_TI} {L : wr_TL} {R : wr_TR} (q t a : Nat) (g : RG) (hq : SH[q]? = some (.inr 3)) (ht : SH[t]? = some (.inr 5)) (hqt : t ≠ q) (hV : rgV I L t g) (hT : plT I R q t a g) (ha : a < 324) (hL : ∀ s, gN g ≤ s → lb (L q 7) s = false) (hu : a / 4 % 3 + 1 = 3) (hr : a % 4 = 0) : wr_P l 3 mX3_goOn [.ref q] SH I L R (fun v s' I' L' R' => v = none ∧ s' = SH ∧ I' = I ∧ R' = R ∧ ∃ x, (∀ s, s < 64 → lb x s = (decide (s < gN g) && decide (a / 12 % 3 + 1 ≤ ck g a (lb (L q 7)) (2 * pm g a) s))) ∧ L' = goL L q 3 0 (x &&& ((L q 7 ||| L q 8 ||| L q 9 ||| L q 10 ||| L q 11 ||| L q 12 ||| L t 6 ||| L t 7) ^^^ (-1)))) := by
  have hr0 := hT.1
  have hup : I q 5 = nI 3 := by rw [hT.2.2.2.2.2.1, hu]
  have hre : I q 6 = nI 0 := by rw [hT.2.2.2.2.2.2, hr]
  refine wv_pad 6 ?_
  show wr_V l 3 mX3_goOn 0 [some (.ref q), none, none, none, none, none, none] [] SH I L R 0 0 _
  refine wv_aload_n dX3_goOn_0 rfl ?_
  refine wv_v0e oX3_allUp kX3_58 dX3_goOn_1 (by omega) (by first | assumption | rfl) ⟨rfl, by decide⟩ (Nat.le_of_ble_eq_true rfl) (Nat.le_of_ble_eq_true rfl) (cP_allUp q hq) ?_
  refine wv_aload_n dX3_goOn_4 rfl ?_
  refine wv_getL fX3_49 dX3_goOn_5 rfl (by first | assumption | rfl) ?_
  refine wv_lor dX3_goOn_8 ?_
  refine wv_aload_n dX3_goOn_9 rfl ?_
  refine wv_getL fX3_52 dX3_goOn_10 rfl (by first | assumption | rfl) ?_
  refine wv_lor dX3_goOn_13 ?_
  refine wv_aload_n dX3_goOn_14 rfl ?_
  refine wv_getL fX3_55 dX3_goOn_15 rfl (by first | assumption | rfl) ?_
  refine wv_lor dX3_goOn_18 ?_
  refine wv_lstore_k (i := 1) dX3_goOn_19 rfl (by decide) ?_
  refine wv_aload_n dX3_goOn_20 rfl ?_
  refine wv_v0 oX3_thoseWhoSee kX3_62 dX3_goOn_21 (by omega) (by first | assumption | rfl) ⟨rfl, by decide⟩ (Nat.le_of_ble_eq_true rfl) (Nat.le_of_ble_eq_true rfl) (cP_see q t a g hq ht hV hT ha hL) (fun v9 s9 J9 L9 R9 h9 => ?_)
  obtain ⟨⟨x, rfl, hx⟩, rfl, rfl, rfl, rfl⟩ := h9
  refine wv_lload_n dX3_goOn_24 rfl ?_
  refine wv_aload_n dX3_goOn_25 rfl ?_
  refine wv_getR fX3_7 dX3_goOn_26 rfl (by first | assumption | rfl) (by first | exact hR _ _ _ rfl | assumption) ?_
  refine wv_getL fX3_65 dX3_goOn_29 rfl (by first | assumption | rfl) ?_
  refine wv_lor dX3_goOn_32 ?_
  refine wv_aload_n dX3_goOn_33 rfl ?_
  refine wv_getR fX3_7 dX3_goOn_34 rfl (by first | assumption | rfl) (by first | exact hR _ _ _ rfl | assumption) ?_
  refine wv_getL fX3_68 dX3_goOn_37 rfl (by first | assumption | rfl) ?_
  refine wv_lor dX3_goOn_40 ?_
  refine wv_ldc2_w nX3_71 dX3_goOn_41 ?_
  refine wv_lxor dX3_goOn_44 ?_
  refine wv_land dX3_goOn_45 ?_
  refine wv_lstore_k (i := 3) dX3_goOn_46 rfl (by decide) ?_
  refine wv_aload_n dX3_goOn_47 rfl ?_
  refine wv_getI fX3_17 dX3_goOn_48 rfl (by first | assumption | rfl) ?_
  refine wv_iconst (v := 1) dX3_goOn_51 (by decide) ?_
  refine wv_icmp_ne (tgt := 62) dX3_goOn_52 (by decide) (fun h52 => ?_) (fun h52 => absurd h52 (by rw [hup]; decide))
  refine wv_aload_n dX3_goOn_62 rfl ?_
  refine wv_getI fX3_17 dX3_goOn_63 rfl (by first | assumption | rfl) ?_
  refine wv_iconst (v := 2) dX3_goOn_66 (by decide) ?_
  refine wv_icmp_ne (tgt := 77) dX3_goOn_67 (by decide) (fun h67 => ?_) (fun h67 => absurd h67 (by rw [hup]; decide))
  refine wv_aload_n dX3_goOn_77 rfl ?_
  refine wv_getL fX3_46 dX3_goOn_78 rfl (by first | assumption | rfl) ?_
  refine wv_lstore dX3_goOn_81 (by decide) ?_
  refine wv_aload_n dX3_goOn_83 rfl ?_
  refine wv_aload_n dX3_goOn_84 rfl ?_
  refine wv_getI fX3_13 dX3_goOn_85 rfl (by first | assumption | rfl) ?_
  refine wv_iconst (v := 2) dX3_goOn_88 (by decide) ?_
  refine wv_icmp_le (tgt := 99) dX3_goOn_89 (by decide) (fun h89 => ?_) (fun h89 => absurd (by rw [hre]; decide) h89)
  refine wv_lconst (v := 0) dX3_goOn_99 (by decide) ?_
  refine wv_putL fX3_55 dX3_goOn_100 rfl rfl rfl rfl (by first | assumption | rfl) ?_
  refine wv_aload_n dX3_goOn_103 rfl ?_
  refine wv_aload_n dX3_goOn_104 rfl ?_
  refine wv_getI fX3_13 dX3_goOn_105 rfl (by first | assumption | rfl) ?_
  refine wv_iconst (v := 1) dX3_goOn_108 (by decide) ?_
  refine wv_icmp_le (tgt := 119) dX3_goOn_109 (by decide) (fun h109 => ?_) (fun h109 => absurd (by rw [hre]; decide) h109)
  refine wv_lconst (v := 0) dX3_goOn_119 (by decide) ?_
  refine wv_putL fX3_52 dX3_goOn_120 rfl rfl rfl rfl (by first | assumption | rfl) ?_
  refine wv_aload_n dX3_goOn_123 rfl ?_
  refine wv_aload_n dX3_goOn_124 rfl ?_
  refine wv_getI fX3_13 dX3_goOn_125 rfl (by first | assumption | rfl) ?_
  refine wv_if_le (tgt := 136) dX3_goOn_128 (by decide) (fun h128 => ?_) (fun h128 => absurd (by rw [hre]; decide) h128)
  refine wv_lconst (v := 0) dX3_goOn_136 (by decide) ?_
  refine wv_putL fX3_49 dX3_goOn_137 rfl rfl rfl rfl (by first | assumption | rfl) ?_
  refine wv_aload_n dX3_goOn_140 rfl ?_
  refine wv_aload_n dX3_goOn_141 rfl ?_
  refine wv_getI fX3_17 dX3_goOn_142 rfl (by first | assumption | rfl) ?_
  refine wv_iconst (v := 2) dX3_goOn_145 (by decide) ?_
  refine wv_icmp_le (tgt := 156) dX3_goOn_146 (by decide) (fun h146 => absurd h146 (by rw [hup]; decide)) (fun h146 => ?_)
  refine wv_aload_n dX3_goOn_149 rfl ?_
  refine wv_getL fX3_43 dX3_goOn_150 rfl (by first | assumption | rfl) ?_
  refine wv_goto (tgt := 157) dX3_goOn_153 (by decide) ?_
  refine wv_putL fX3_46 dX3_goOn_157 rfl rfl rfl rfl (by first | assumption | rfl) ?_
  refine wv_aload_n dX3_goOn_160 rfl ?_
  refine wv_aload_n dX3_goOn_161 rfl ?_
  refine wv_getI fX3_17 dX3_goOn_162 rfl (by first | assumption | rfl) ?_
  refine wv_iconst (v := 1) dX3_goOn_165 (by decide) ?_
  refine wv_icmp_le (tgt := 176) dX3_goOn_166 (by decide) (fun h166 => absurd h166 (by rw [hup]; decide)) (fun h166 => ?_)
  refine wv_aload_n dX3_goOn_169 rfl ?_
  refine wv_getL fX3_39 dX3_goOn_170 rfl (by first | assumption | rfl) ?_
  refine wv_goto (tgt := 177) dX3_goOn_173 (by decide) ?_
  refine wv_putL fX3_43 dX3_goOn_177 rfl rfl rfl rfl (by first | assumption | rfl) ?_
  refine wv_aload_n dX3_goOn_180 rfl ?_
  refine wv_lload_n dX3_goOn_181 rfl ?_
  refine wv_putL fX3_39 dX3_goOn_182 rfl rfl rfl rfl (by first | assumption | rfl) ?_
  refine wv_ret (x := ()) rfl dX3_goOn_185 ?_
  refine ⟨rfl, rfl, rfl, rfl, x, hx, ?_⟩
  funext b d
  by_cases hb : b = q
  · subst hb
    by_cases h7 : d = 7
    · subst h7; simp [wr_uL, goL]
    · by_cases h8 : d = 8
      · subst h8; simp [wr_uL, goL]
      · by_cases h9 : d = 9
        · subst h9; simp [wr_uL, goL]
        · by_cases h10 : d = 10
          · subst h10; simp [wr_uL, goL]
          · by_cases h11 : d = 11
            · subst h11; simp [wr_uL, goL]
            · by_cases h12 : d = 12
              · subst h12; simp [wr_uL, goL]
              · simp [wr_uL, goL, h7, h8, h9, h10, h11, h12]
  · simp [wr_uL, goL, hb]

set_option maxHeartbeats 4000000 in
set_option maxRecDepth 100000 in
theorem cP_go31 {l : Launch} {I : wr_TI} {L : wr_TL} {R : wr_TR} (q t a : Nat) (g : RG) (hq : SH[q]? = some (.inr 3)) (ht : SH[t]? = some (.inr 5)) (hqt : t ≠ q) (hV : rgV I L t g) (hT : plT I R q t a g) (ha : a < 324) (hL : ∀ s, gN g ≤ s → lb (L q 7) s = false) (hu : a / 4 % 3 + 1 = 3) (hr : a % 4 = 1) : wr_P l 3 mX3_goOn [.ref q] SH I L R (fun v s' I' L' R' => v = none ∧ s' = SH ∧ I' = I ∧ R' = R ∧ ∃ x, (∀ s, s < 64 → lb x s = (decide (s < gN g) && decide (a / 12 % 3 + 1 ≤ ck g a (lb (L q 7)) (2 * pm g a) s))) ∧ L' = goL L q 3 1 (x &&& ((L q 7 ||| L q 8 ||| L q 9 ||| L q 10 ||| L q 11 ||| L q 12 ||| L t 6 ||| L t 7) ^^^ (-1)))) := by
  have hr0 := hT.1
  have hup : I q 5 = nI 3 := by rw [hT.2.2.2.2.2.1, hu]
  have hre : I q 6 = nI 1 := by rw [hT.2.2.2.2.2.2, hr]
  refine wv_pad 6 ?_
  show wr_V l 3 mX3_goOn 0 [some (.ref q), none, none, none, none, none, none] [] SH I L R 0 0 _
  refine wv_aload_n dX3_goOn_0 rfl ?_
  refine wv_v0e oX3_allUp kX3_58 dX3_goOn_1 (by omega) (by first | assumption | rfl) ⟨rfl, by decide⟩ (Nat.le_of_ble_eq_true rfl) (Nat.le_of_ble_eq_true rfl) (cP_allUp q hq) ?_
  refine wv_aload_n dX3_goOn_4 rfl ?_
  refine wv_getL fX3_49 dX3_goOn_5 rfl (by first | assumption | rfl) ?_
  refine wv_lor dX3_goOn_8 ?_
  refine wv_aload_n dX3_goOn_9 rfl ?_
  refine wv_getL fX3_52 dX3_goOn_10 rfl (by first | assumption | rfl) ?_
  refine wv_lor dX3_goOn_13 ?_
  refine wv_aload_n dX3_goOn_14 rfl ?_
  refine wv_getL fX3_55 dX3_goOn_15 rfl (by first | assumption | rfl) ?_
  refine wv_lor dX3_goOn_18 ?_
  refine wv_lstore_k (i := 1) dX3_goOn_19 rfl (by decide) ?_
  refine wv_aload_n dX3_goOn_20 rfl ?_
  refine wv_v0 oX3_thoseWhoSee kX3_62 dX3_goOn_21 (by omega) (by first | assumption | rfl) ⟨rfl, by decide⟩ (Nat.le_of_ble_eq_true rfl) (Nat.le_of_ble_eq_true rfl) (cP_see q t a g hq ht hV hT ha hL) (fun v9 s9 J9 L9 R9 h9 => ?_)
  obtain ⟨⟨x, rfl, hx⟩, rfl, rfl, rfl, rfl⟩ := h9
  refine wv_lload_n dX3_goOn_24 rfl ?_
  refine wv_aload_n dX3_goOn_25 rfl ?_
  refine wv_getR fX3_7 dX3_goOn_26 rfl (by first | assumption | rfl) (by first | exact hR _ _ _ rfl | assumption) ?_
  refine wv_getL fX3_65 dX3_goOn_29 rfl (by first | assumption | rfl) ?_
  refine wv_lor dX3_goOn_32 ?_
  refine wv_aload_n dX3_goOn_33 rfl ?_
  refine wv_getR fX3_7 dX3_goOn_34 rfl (by first | assumption | rfl) (by first | exact hR _ _ _ rfl | assumption) ?_
  refine wv_getL fX3_68 dX3_goOn_37 rfl (by first | assumption | rfl) ?_
  refine wv_lor dX3_goOn_40 ?_
  refine wv_ldc2_w nX3_71 dX3_goOn_41 ?_
  refine wv_lxor dX3_goOn_44 ?_
  refine wv_land dX3_goOn_45 ?_
  refine wv_lstore_k (i := 3) dX3_goOn_46 rfl (by decide) ?_
  refine wv_aload_n dX3_goOn_47 rfl ?_
  refine wv_getI fX3_17 dX3_goOn_48 rfl (by first | assumption | rfl) ?_
  refine wv_iconst (v := 1) dX3_goOn_51 (by decide) ?_
  refine wv_icmp_ne (tgt := 62) dX3_goOn_52 (by decide) (fun h52 => ?_) (fun h52 => absurd h52 (by rw [hup]; decide))
  refine wv_aload_n dX3_goOn_62 rfl ?_
  refine wv_getI fX3_17 dX3_goOn_63 rfl (by first | assumption | rfl) ?_
  refine wv_iconst (v := 2) dX3_goOn_66 (by decide) ?_
  refine wv_icmp_ne (tgt := 77) dX3_goOn_67 (by decide) (fun h67 => ?_) (fun h67 => absurd h67 (by rw [hup]; decide))
  refine wv_aload_n dX3_goOn_77 rfl ?_
  refine wv_getL fX3_46 dX3_goOn_78 rfl (by first | assumption | rfl) ?_
  refine wv_lstore dX3_goOn_81 (by decide) ?_
  refine wv_aload_n dX3_goOn_83 rfl ?_
  refine wv_aload_n dX3_goOn_84 rfl ?_
  refine wv_getI fX3_13 dX3_goOn_85 rfl (by first | assumption | rfl) ?_
  refine wv_iconst (v := 2) dX3_goOn_88 (by decide) ?_
  refine wv_icmp_le (tgt := 99) dX3_goOn_89 (by decide) (fun h89 => ?_) (fun h89 => absurd (by rw [hre]; decide) h89)
  refine wv_lconst (v := 0) dX3_goOn_99 (by decide) ?_
  refine wv_putL fX3_55 dX3_goOn_100 rfl rfl rfl rfl (by first | assumption | rfl) ?_
  refine wv_aload_n dX3_goOn_103 rfl ?_
  refine wv_aload_n dX3_goOn_104 rfl ?_
  refine wv_getI fX3_13 dX3_goOn_105 rfl (by first | assumption | rfl) ?_
  refine wv_iconst (v := 1) dX3_goOn_108 (by decide) ?_
  refine wv_icmp_le (tgt := 119) dX3_goOn_109 (by decide) (fun h109 => ?_) (fun h109 => absurd (by rw [hre]; decide) h109)
  refine wv_lconst (v := 0) dX3_goOn_119 (by decide) ?_
  refine wv_putL fX3_52 dX3_goOn_120 rfl rfl rfl rfl (by first | assumption | rfl) ?_
  refine wv_aload_n dX3_goOn_123 rfl ?_
  refine wv_aload_n dX3_goOn_124 rfl ?_
  refine wv_getI fX3_13 dX3_goOn_125 rfl (by first | assumption | rfl) ?_
  refine wv_if_le (tgt := 136) dX3_goOn_128 (by decide) (fun h128 => absurd h128 (by rw [hre]; decide)) (fun h128 => ?_)
  refine wv_lload dX3_goOn_131 rfl ?_
  refine wv_goto (tgt := 137) dX3_goOn_133 (by decide) ?_
  refine wv_putL fX3_49 dX3_goOn_137 rfl rfl rfl rfl (by first | assumption | rfl) ?_
  refine wv_aload_n dX3_goOn_140 rfl ?_
  refine wv_aload_n dX3_goOn_141 rfl ?_
  refine wv_getI fX3_17 dX3_goOn_142 rfl (by first | assumption | rfl) ?_
  refine wv_iconst (v := 2) dX3_goOn_145 (by decide) ?_
  refine wv_icmp_le (tgt := 156) dX3_goOn_146 (by decide) (fun h146 => absurd h146 (by rw [hup]; decide)) (fun h146 => ?_)
  refine wv_aload_n dX3_goOn_149 rfl ?_
  refine wv_getL fX3_43 dX3_goOn_150 rfl (by first | assumption | rfl) ?_
  refine wv_goto (tgt := 157) dX3_goOn_153 (by decide) ?_
  refine wv_putL fX3_46 dX3_goOn_157 rfl rfl rfl rfl (by first | assumption | rfl) ?_
  refine wv_aload_n dX3_goOn_160 rfl ?_
  refine wv_aload_n dX3_goOn_161 rfl ?_
  refine wv_getI fX3_17 dX3_goOn_162 rfl (by first | assumption | rfl) ?_
  refine wv_iconst (v := 1) dX3_goOn_165 (by decide) ?_
  refine wv_icmp_le (tgt := 176) dX3_goOn_166 (by decide) (fun h166 => absurd h166 (by rw [hup]; decide)) (fun h166 => ?_)
  refine wv_aload_n dX3_goOn_169 rfl ?_
  refine wv_getL fX3_39 dX3_goOn_170 rfl (by first | assumption | rfl) ?_
  refine wv_goto (tgt := 177) dX3_goOn_173 (by decide) ?_
  refine wv_putL fX3_43 dX3_goOn_177 rfl rfl rfl rfl (by first | assumption | rfl) ?_
  refine wv_aload_n dX3_goOn_180 rfl ?_
  refine wv_lload_n dX3_goOn_181 rfl ?_
  refine wv_putL fX3_39 dX3_goOn_182 rfl rfl rfl rfl (by first | assumption | rfl) ?_
  refine wv_ret (x := ()) rfl dX3_goOn_185 ?_
  refine ⟨rfl, rfl, rfl, rfl, x, hx, ?_⟩
  funext b d
  by_cases hb : b = q
  · subst hb
    by_cases h7 : d = 7
    · subst h7; simp [wr_uL, goL]
    · by_cases h8 : d = 8
      · subst h8; simp [wr_uL, goL]
      · by_cases h9 : d = 9
        · subst h9; simp [wr_uL, goL]
        · by_cases h10 : d = 10
          · subst h10; simp [wr_uL, goL]
          · by_cases h11 : d = 11
            · subst h11; simp [wr_uL, goL]
            · by_cases h12 : d = 12
              · subst h12; simp [wr_uL, goL]
              · simp [wr_uL, goL, h7, h8, h9, h10, h11, h12]
  · simp [wr_uL, goL, hb]

set_option maxHeartbeats 4000000 in
set_option maxRecDepth 100000 in
theorem cP_go32 {l : Launch} {I : wr_TI} {L : wr_TL} {R : wr_TR} (q t a : Nat) (g : RG) (hq : SH[q]? = some (.inr 3)) (ht : SH[t]? = some (.inr 5)) (hqt : t ≠ q) (hV : rgV I L t g) (hT : plT I R q t a g) (ha : a < 324) (hL : ∀ s, gN g ≤ s → lb (L q 7) s = false) (hu : a / 4 % 3 + 1 = 3) (hr : a % 4 = 2) : wr_P l 3 mX3_goOn [.ref q] SH I L R (fun v s' I' L' R' => v = none ∧ s' = SH ∧ I' = I ∧ R' = R ∧ ∃ x, (∀ s, s < 64 → lb x s = (decide (s < gN g) && decide (a / 12 % 3 + 1 ≤ ck g a (lb (L q 7)) (2 * pm g a) s))) ∧ L' = goL L q 3 2 (x &&& ((L q 7 ||| L q 8 ||| L q 9 ||| L q 10 ||| L q 11 ||| L q 12 ||| L t 6 ||| L t 7) ^^^ (-1)))) := by
  have hr0 := hT.1
  have hup : I q 5 = nI 3 := by rw [hT.2.2.2.2.2.1, hu]
  have hre : I q 6 = nI 2 := by rw [hT.2.2.2.2.2.2, hr]
  refine wv_pad 6 ?_
  show wr_V l 3 mX3_goOn 0 [some (.ref q), none, none, none, none, none, none] [] SH I L R 0 0 _
  refine wv_aload_n dX3_goOn_0 rfl ?_
  refine wv_v0e oX3_allUp kX3_58 dX3_goOn_1 (by omega) (by first | assumption | rfl) ⟨rfl, by decide⟩ (Nat.le_of_ble_eq_true rfl) (Nat.le_of_ble_eq_true rfl) (cP_allUp q hq) ?_
  refine wv_aload_n dX3_goOn_4 rfl ?_
  refine wv_getL fX3_49 dX3_goOn_5 rfl (by first | assumption | rfl) ?_
  refine wv_lor dX3_goOn_8 ?_
  refine wv_aload_n dX3_goOn_9 rfl ?_
  refine wv_getL fX3_52 dX3_goOn_10 rfl (by first | assumption | rfl) ?_
  refine wv_lor dX3_goOn_13 ?_
  refine wv_aload_n dX3_goOn_14 rfl ?_
  refine wv_getL fX3_55 dX3_goOn_15 rfl (by first | assumption | rfl) ?_
  refine wv_lor dX3_goOn_18 ?_
  refine wv_lstore_k (i := 1) dX3_goOn_19 rfl (by decide) ?_
  refine wv_aload_n dX3_goOn_20 rfl ?_
  refine wv_v0 oX3_thoseWhoSee kX3_62 dX3_goOn_21 (by omega) (by first | assumption | rfl) ⟨rfl, by decide⟩ (Nat.le_of_ble_eq_true rfl) (Nat.le_of_ble_eq_true rfl) (cP_see q t a g hq ht hV hT ha hL) (fun v9 s9 J9 L9 R9 h9 => ?_)
  obtain ⟨⟨x, rfl, hx⟩, rfl, rfl, rfl, rfl⟩ := h9
  refine wv_lload_n dX3_goOn_24 rfl ?_
  refine wv_aload_n dX3_goOn_25 rfl ?_
  refine wv_getR fX3_7 dX3_goOn_26 rfl (by first | assumption | rfl) (by first | exact hR _ _ _ rfl | assumption) ?_
  refine wv_getL fX3_65 dX3_goOn_29 rfl (by first | assumption | rfl) ?_
  refine wv_lor dX3_goOn_32 ?_
  refine wv_aload_n dX3_goOn_33 rfl ?_
  refine wv_getR fX3_7 dX3_goOn_34 rfl (by first | assumption | rfl) (by first | exact hR _ _ _ rfl | assumption) ?_
  refine wv_getL fX3_68 dX3_goOn_37 rfl (by first | assumption | rfl) ?_
  refine wv_lor dX3_goOn_40 ?_
  refine wv_ldc2_w nX3_71 dX3_goOn_41 ?_
  refine wv_lxor dX3_goOn_44 ?_
  refine wv_land dX3_goOn_45 ?_
  refine wv_lstore_k (i := 3) dX3_goOn_46 rfl (by decide) ?_
  refine wv_aload_n dX3_goOn_47 rfl ?_
  refine wv_getI fX3_17 dX3_goOn_48 rfl (by first | assumption | rfl) ?_
  refine wv_iconst (v := 1) dX3_goOn_51 (by decide) ?_
  refine wv_icmp_ne (tgt := 62) dX3_goOn_52 (by decide) (fun h52 => ?_) (fun h52 => absurd h52 (by rw [hup]; decide))
  refine wv_aload_n dX3_goOn_62 rfl ?_
  refine wv_getI fX3_17 dX3_goOn_63 rfl (by first | assumption | rfl) ?_
  refine wv_iconst (v := 2) dX3_goOn_66 (by decide) ?_
  refine wv_icmp_ne (tgt := 77) dX3_goOn_67 (by decide) (fun h67 => ?_) (fun h67 => absurd h67 (by rw [hup]; decide))
  refine wv_aload_n dX3_goOn_77 rfl ?_
  refine wv_getL fX3_46 dX3_goOn_78 rfl (by first | assumption | rfl) ?_
  refine wv_lstore dX3_goOn_81 (by decide) ?_
  refine wv_aload_n dX3_goOn_83 rfl ?_
  refine wv_aload_n dX3_goOn_84 rfl ?_
  refine wv_getI fX3_13 dX3_goOn_85 rfl (by first | assumption | rfl) ?_
  refine wv_iconst (v := 2) dX3_goOn_88 (by decide) ?_
  refine wv_icmp_le (tgt := 99) dX3_goOn_89 (by decide) (fun h89 => ?_) (fun h89 => absurd (by rw [hre]; decide) h89)
  refine wv_lconst (v := 0) dX3_goOn_99 (by decide) ?_
  refine wv_putL fX3_55 dX3_goOn_100 rfl rfl rfl rfl (by first | assumption | rfl) ?_
  refine wv_aload_n dX3_goOn_103 rfl ?_
  refine wv_aload_n dX3_goOn_104 rfl ?_
  refine wv_getI fX3_13 dX3_goOn_105 rfl (by first | assumption | rfl) ?_
  refine wv_iconst (v := 1) dX3_goOn_108 (by decide) ?_
  refine wv_icmp_le (tgt := 119) dX3_goOn_109 (by decide) (fun h109 => absurd h109 (by rw [hre]; decide)) (fun h109 => ?_)
  refine wv_aload_n dX3_goOn_112 rfl ?_
  refine wv_getL fX3_49 dX3_goOn_113 rfl (by first | assumption | rfl) ?_
  refine wv_goto (tgt := 120) dX3_goOn_116 (by decide) ?_
  refine wv_putL fX3_52 dX3_goOn_120 rfl rfl rfl rfl (by first | assumption | rfl) ?_
  refine wv_aload_n dX3_goOn_123 rfl ?_
  refine wv_aload_n dX3_goOn_124 rfl ?_
  refine wv_getI fX3_13 dX3_goOn_125 rfl (by first | assumption | rfl) ?_
  refine wv_if_le (tgt := 136) dX3_goOn_128 (by decide) (fun h128 => absurd h128 (by rw [hre]; decide)) (fun h128 => ?_)
  refine wv_lload dX3_goOn_131 rfl ?_
  refine wv_goto (tgt := 137) dX3_goOn_133 (by decide) ?_
  refine wv_putL fX3_49 dX3_goOn_137 rfl rfl rfl rfl (by first | assumption | rfl) ?_
  refine wv_aload_n dX3_goOn_140 rfl ?_
  refine wv_aload_n dX3_goOn_141 rfl ?_
  refine wv_getI fX3_17 dX3_goOn_142 rfl (by first | assumption | rfl) ?_
  refine wv_iconst (v := 2) dX3_goOn_145 (by decide) ?_
  refine wv_icmp_le (tgt := 156) dX3_goOn_146 (by decide) (fun h146 => absurd h146 (by rw [hup]; decide)) (fun h146 => ?_)
  refine wv_aload_n dX3_goOn_149 rfl ?_
  refine wv_getL fX3_43 dX3_goOn_150 rfl (by first | assumption | rfl) ?_
  refine wv_goto (tgt := 157) dX3_goOn_153 (by decide) ?_
  refine wv_putL fX3_46 dX3_goOn_157 rfl rfl rfl rfl (by first | assumption | rfl) ?_
  refine wv_aload_n dX3_goOn_160 rfl ?_
  refine wv_aload_n dX3_goOn_161 rfl ?_
  refine wv_getI fX3_17 dX3_goOn_162 rfl (by first | assumption | rfl) ?_
  refine wv_iconst (v := 1) dX3_goOn_165 (by decide) ?_
  refine wv_icmp_le (tgt := 176) dX3_goOn_166 (by decide) (fun h166 => absurd h166 (by rw [hup]; decide)) (fun h166 => ?_)
  refine wv_aload_n dX3_goOn_169 rfl ?_
  refine wv_getL fX3_39 dX3_goOn_170 rfl (by first | assumption | rfl) ?_
  refine wv_goto (tgt := 177) dX3_goOn_173 (by decide) ?_
  refine wv_putL fX3_43 dX3_goOn_177 rfl rfl rfl rfl (by first | assumption | rfl) ?_
  refine wv_aload_n dX3_goOn_180 rfl ?_
  refine wv_lload_n dX3_goOn_181 rfl ?_
  refine wv_putL fX3_39 dX3_goOn_182 rfl rfl rfl rfl (by first | assumption | rfl) ?_
  refine wv_ret (x := ()) rfl dX3_goOn_185 ?_
  refine ⟨rfl, rfl, rfl, rfl, x, hx, ?_⟩
  funext b d
  by_cases hb : b = q
  · subst hb
    by_cases h7 : d = 7
    · subst h7; simp [wr_uL, goL]
    · by_cases h8 : d = 8
      · subst h8; simp [wr_uL, goL]
      · by_cases h9 : d = 9
        · subst h9; simp [wr_uL, goL]
        · by_cases h10 : d = 10
          · subst h10; simp [wr_uL, goL]
          · by_cases h11 : d = 11
            · subst h11; simp [wr_uL, goL]
            · by_cases h12 : d = 12
              · subst h12; simp [wr_uL, goL]
              · simp [wr_uL, goL, h7, h8, h9, h10, h11, h12]
  · simp [wr_uL, goL, hb]

set_option maxHeartbeats 4000000 in
set_option maxRecDepth 100000 in
theorem cP_go33 {l : Launch} {I : wr_TI} {L : wr_TL} {R : wr_TR} (q t a : Nat) (g : RG) (hq : SH[q]? = some (.inr 3)) (ht : SH[t]? = some (.inr 5)) (hqt : t ≠ q) (hV : rgV I L t g) (hT : plT I R q t a g) (ha : a < 324) (hL : ∀ s, gN g ≤ s → lb (L q 7) s = false) (hu : a / 4 % 3 + 1 = 3) (hr : a % 4 = 3) : wr_P l 3 mX3_goOn [.ref q] SH I L R (fun v s' I' L' R' => v = none ∧ s' = SH ∧ I' = I ∧ R' = R ∧ ∃ x, (∀ s, s < 64 → lb x s = (decide (s < gN g) && decide (a / 12 % 3 + 1 ≤ ck g a (lb (L q 7)) (2 * pm g a) s))) ∧ L' = goL L q 3 3 (x &&& ((L q 7 ||| L q 8 ||| L q 9 ||| L q 10 ||| L q 11 ||| L q 12 ||| L t 6 ||| L t 7) ^^^ (-1)))) := by
  have hr0 := hT.1
  have hup : I q 5 = nI 3 := by rw [hT.2.2.2.2.2.1, hu]
  have hre : I q 6 = nI 3 := by rw [hT.2.2.2.2.2.2, hr]
  refine wv_pad 6 ?_
  show wr_V l 3 mX3_goOn 0 [some (.ref q), none, none, none, none, none, none] [] SH I L R 0 0 _
  refine wv_aload_n dX3_goOn_0 rfl ?_
  refine wv_v0e oX3_allUp kX3_58 dX3_goOn_1 (by omega) (by first | assumption | rfl) ⟨rfl, by decide⟩ (Nat.le_of_ble_eq_true rfl) (Nat.le_of_ble_eq_true rfl) (cP_allUp q hq) ?_
  refine wv_aload_n dX3_goOn_4 rfl ?_
  refine wv_getL fX3_49 dX3_goOn_5 rfl (by first | assumption | rfl) ?_
  refine wv_lor dX3_goOn_8 ?_
  refine wv_aload_n dX3_goOn_9 rfl ?_
  refine wv_getL fX3_52 dX3_goOn_10 rfl (by first | assumption | rfl) ?_
  refine wv_lor dX3_goOn_13 ?_
  refine wv_aload_n dX3_goOn_14 rfl ?_
  refine wv_getL fX3_55 dX3_goOn_15 rfl (by first | assumption | rfl) ?_
  refine wv_lor dX3_goOn_18 ?_
  refine wv_lstore_k (i := 1) dX3_goOn_19 rfl (by decide) ?_
  refine wv_aload_n dX3_goOn_20 rfl ?_
  refine wv_v0 oX3_thoseWhoSee kX3_62 dX3_goOn_21 (by omega) (by first | assumption | rfl) ⟨rfl, by decide⟩ (Nat.le_of_ble_eq_true rfl) (Nat.le_of_ble_eq_true rfl) (cP_see q t a g hq ht hV hT ha hL) (fun v9 s9 J9 L9 R9 h9 => ?_)
  obtain ⟨⟨x, rfl, hx⟩, rfl, rfl, rfl, rfl⟩ := h9
  refine wv_lload_n dX3_goOn_24 rfl ?_
  refine wv_aload_n dX3_goOn_25 rfl ?_
  refine wv_getR fX3_7 dX3_goOn_26 rfl (by first | assumption | rfl) (by first | exact hR _ _ _ rfl | assumption) ?_
  refine wv_getL fX3_65 dX3_goOn_29 rfl (by first | assumption | rfl) ?_
  refine wv_lor dX3_goOn_32 ?_
  refine wv_aload_n dX3_goOn_33 rfl ?_
  refine wv_getR fX3_7 dX3_goOn_34 rfl (by first | assumption | rfl) (by first | exact hR _ _ _ rfl | assumption) ?_
  refine wv_getL fX3_68 dX3_goOn_37 rfl (by first | assumption | rfl) ?_
  refine wv_lor dX3_goOn_40 ?_
  refine wv_ldc2_w nX3_71 dX3_goOn_41 ?_
  refine wv_lxor dX3_goOn_44 ?_
  refine wv_land dX3_goOn_45 ?_
  refine wv_lstore_k (i := 3) dX3_goOn_46 rfl (by decide) ?_
  refine wv_aload_n dX3_goOn_47 rfl ?_
  refine wv_getI fX3_17 dX3_goOn_48 rfl (by first | assumption | rfl) ?_
  refine wv_iconst (v := 1) dX3_goOn_51 (by decide) ?_
  refine wv_icmp_ne (tgt := 62) dX3_goOn_52 (by decide) (fun h52 => ?_) (fun h52 => absurd h52 (by rw [hup]; decide))
  refine wv_aload_n dX3_goOn_62 rfl ?_
  refine wv_getI fX3_17 dX3_goOn_63 rfl (by first | assumption | rfl) ?_
  refine wv_iconst (v := 2) dX3_goOn_66 (by decide) ?_
  refine wv_icmp_ne (tgt := 77) dX3_goOn_67 (by decide) (fun h67 => ?_) (fun h67 => absurd h67 (by rw [hup]; decide))
  refine wv_aload_n dX3_goOn_77 rfl ?_
  refine wv_getL fX3_46 dX3_goOn_78 rfl (by first | assumption | rfl) ?_
  refine wv_lstore dX3_goOn_81 (by decide) ?_
  refine wv_aload_n dX3_goOn_83 rfl ?_
  refine wv_aload_n dX3_goOn_84 rfl ?_
  refine wv_getI fX3_13 dX3_goOn_85 rfl (by first | assumption | rfl) ?_
  refine wv_iconst (v := 2) dX3_goOn_88 (by decide) ?_
  refine wv_icmp_le (tgt := 99) dX3_goOn_89 (by decide) (fun h89 => absurd h89 (by rw [hre]; decide)) (fun h89 => ?_)
  refine wv_aload_n dX3_goOn_92 rfl ?_
  refine wv_getL fX3_52 dX3_goOn_93 rfl (by first | assumption | rfl) ?_
  refine wv_goto (tgt := 100) dX3_goOn_96 (by decide) ?_
  refine wv_putL fX3_55 dX3_goOn_100 rfl rfl rfl rfl (by first | assumption | rfl) ?_
  refine wv_aload_n dX3_goOn_103 rfl ?_
  refine wv_aload_n dX3_goOn_104 rfl ?_
  refine wv_getI fX3_13 dX3_goOn_105 rfl (by first | assumption | rfl) ?_
  refine wv_iconst (v := 1) dX3_goOn_108 (by decide) ?_
  refine wv_icmp_le (tgt := 119) dX3_goOn_109 (by decide) (fun h109 => absurd h109 (by rw [hre]; decide)) (fun h109 => ?_)
  refine wv_aload_n dX3_goOn_112 rfl ?_
  refine wv_getL fX3_49 dX3_goOn_113 rfl (by first | assumption | rfl) ?_
  refine wv_goto (tgt := 120) dX3_goOn_116 (by decide) ?_
  refine wv_putL fX3_52 dX3_goOn_120 rfl rfl rfl rfl (by first | assumption | rfl) ?_
  refine wv_aload_n dX3_goOn_123 rfl ?_
  refine wv_aload_n dX3_goOn_124 rfl ?_
  refine wv_getI fX3_13 dX3_goOn_125 rfl (by first | assumption | rfl) ?_
  refine wv_if_le (tgt := 136) dX3_goOn_128 (by decide) (fun h128 => absurd h128 (by rw [hre]; decide)) (fun h128 => ?_)
  refine wv_lload dX3_goOn_131 rfl ?_
  refine wv_goto (tgt := 137) dX3_goOn_133 (by decide) ?_
  refine wv_putL fX3_49 dX3_goOn_137 rfl rfl rfl rfl (by first | assumption | rfl) ?_
  refine wv_aload_n dX3_goOn_140 rfl ?_
  refine wv_aload_n dX3_goOn_141 rfl ?_
  refine wv_getI fX3_17 dX3_goOn_142 rfl (by first | assumption | rfl) ?_
  refine wv_iconst (v := 2) dX3_goOn_145 (by decide) ?_
  refine wv_icmp_le (tgt := 156) dX3_goOn_146 (by decide) (fun h146 => absurd h146 (by rw [hup]; decide)) (fun h146 => ?_)
  refine wv_aload_n dX3_goOn_149 rfl ?_
  refine wv_getL fX3_43 dX3_goOn_150 rfl (by first | assumption | rfl) ?_
  refine wv_goto (tgt := 157) dX3_goOn_153 (by decide) ?_
  refine wv_putL fX3_46 dX3_goOn_157 rfl rfl rfl rfl (by first | assumption | rfl) ?_
  refine wv_aload_n dX3_goOn_160 rfl ?_
  refine wv_aload_n dX3_goOn_161 rfl ?_
  refine wv_getI fX3_17 dX3_goOn_162 rfl (by first | assumption | rfl) ?_
  refine wv_iconst (v := 1) dX3_goOn_165 (by decide) ?_
  refine wv_icmp_le (tgt := 176) dX3_goOn_166 (by decide) (fun h166 => absurd h166 (by rw [hup]; decide)) (fun h166 => ?_)
  refine wv_aload_n dX3_goOn_169 rfl ?_
  refine wv_getL fX3_39 dX3_goOn_170 rfl (by first | assumption | rfl) ?_
  refine wv_goto (tgt := 177) dX3_goOn_173 (by decide) ?_
  refine wv_putL fX3_43 dX3_goOn_177 rfl rfl rfl rfl (by first | assumption | rfl) ?_
  refine wv_aload_n dX3_goOn_180 rfl ?_
  refine wv_lload_n dX3_goOn_181 rfl ?_
  refine wv_putL fX3_39 dX3_goOn_182 rfl rfl rfl rfl (by first | assumption | rfl) ?_
  refine wv_ret (x := ()) rfl dX3_goOn_185 ?_
  refine ⟨rfl, rfl, rfl, rfl, x, hx, ?_⟩
  funext b d
  by_cases hb : b = q
  · subst hb
    by_cases h7 : d = 7
    · subst h7; simp [wr_uL, goL]
    · by_cases h8 : d = 8
      · subst h8; simp [wr_uL, goL]
      · by_cases h9 : d = 9
        · subst h9; simp [wr_uL, goL]
        · by_cases h10 : d = 10
          · subst h10; simp [wr_uL, goL]
          · by_cases h11 : d = 11
            · subst h11; simp [wr_uL, goL]
            · by_cases h12 : d = 12
              · subst h12; simp [wr_uL, goL]
              · simp [wr_uL, goL, h7, h8, h9, h10, h11, h12]
  · simp [wr_uL, goL, hb]

theorem cP_go {l : Launch} {I : wr_TI} {L : wr_TL} {R : wr_TR} (q t a : Nat) (g : RG) (hq : SH[q]? = some (.inr 3)) (ht : SH[t]? = some (.inr 5)) (hqt : t ≠ q) (hV : rgV I L t g) (hT : plT I R q t a g) (ha : a < 324) (hL : ∀ s, gN g ≤ s → lb (L q 7) s = false) : wr_P l 3 mX3_goOn [.ref q] SH I L R (fun v s' I' L' R' => v = none ∧ s' = SH ∧ I' = I ∧ R' = R ∧ ∃ x, (∀ s, s < 64 → lb x s = (decide (s < gN g) && decide (a / 12 % 3 + 1 ≤ ck g a (lb (L q 7)) (2 * pm g a) s))) ∧ L' = goL L q (a / 4 % 3 + 1) (a % 4) (x &&& ((L q 7 ||| L q 8 ||| L q 9 ||| L q 10 ||| L q 11 ||| L q 12 ||| L t 6 ||| L t 7) ^^^ (-1)))) := by
  rcases (by omega : a / 4 % 3 + 1 = 1 ∨ a / 4 % 3 + 1 = 2 ∨ a / 4 % 3 + 1 = 3) with hu | hu | hu <;> rcases (by omega : a % 4 = 0 ∨ a % 4 = 1 ∨ a % 4 = 2 ∨ a % 4 = 3) with hr | hr | hr | hr <;> rw [hu, hr]
  · exact cP_go10 q t a g hq ht hqt hV hT ha hL hu hr
  · exact cP_go11 q t a g hq ht hqt hV hT ha hL hu hr
  · exact cP_go12 q t a g hq ht hqt hV hT ha hL hu hr
  · exact cP_go13 q t a g hq ht hqt hV hT ha hL hu hr
  · exact cP_go20 q t a g hq ht hqt hV hT ha hL hu hr
  · exact cP_go21 q t a g hq ht hqt hV hT ha hL hu hr
  · exact cP_go22 q t a g hq ht hqt hV hT ha hL hu hr
  · exact cP_go23 q t a g hq ht hqt hV hT ha hL hu hr
  · exact cP_go30 q t a g hq ht hqt hV hT ha hL hu hr
  · exact cP_go31 q t a g hq ht hqt hV hT ha hL hu hr
  · exact cP_go32 q t a g hq ht hqt hV hT ha hL hu hr
  · exact cP_go33 q t a g hq ht hqt hV hT ha hL hu hr
