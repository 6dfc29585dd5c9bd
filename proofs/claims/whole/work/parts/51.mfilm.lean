/-! the model: film, untell, later -/
theorem lb_sar (n : Nat) (hn : n < 64) (x : Int64) {i : Nat} (hi : i < 64) : lb (x >>> ((nI n).toInt64 &&& 63)) i = lb x (if n + i < 64 then n + i else 63) := by
  have e := ls_l ⟨n, hn⟩
  simp only at e
  unfold lb
  rw [Int64.toBitVec_shiftRight, BitVec.sshiftRight_eq', e, BitVec.getLsbD_sshiftRight]
  have : ¬ 64 ≤ i := by omega
  by_cases h : n + i < 64
  · simp [this, h]
  · simp [this, h, BitVec.msb_eq_getLsbD_last]
theorem uIn_sh {g : RG} (hn : gN g ≤ 40) (h0 : 0 < gN g) {u : Int64} : u >>> ((nI (gN g)).toInt64 &&& 63) = 0 ↔ uIn g u = true := by
  unfold uIn
  rw [decide_eq_true_iff, cn_pos]
  constructor
  · intro h s hs
    by_cases hsn : s < gN g
    · simp [hsn]
    · have := lb_sar (gN g) (by omega) u (i := s - gN g) (by omega)
      rw [h, lb_0, if_pos (by omega), show gN g + (s - gN g) = s by omega] at this
      simp [← this]
  · intro h
    apply lb_ext
    intro i hi
    rw [lb_sar _ (by omega) _ hi, lb_0]
    have := h (if gN g + i < 64 then gN g + i else 63) (by split <;> omega)
    have hz : ¬ (if gN g + i < 64 then gN g + i else 63) < gN g := by split <;> omega
    generalize (if gN g + i < 64 then gN g + i else 63) = q at this hz ⊢
    simpa [hz] using this
def mfV (I : wr_TI) (L : wr_TL) (m : FM) : Prop := I 55 69 = nI m.1 ∧ m.1 ≤ 60 ∧ ∀ f, f < m.1 → I 83 f = nI (m.2.1 f) ∧ m.2.1 f < 40 ∧ L 86 f = m.2.2.1 f ∧ I 84 f = m.2.2.2.1 f ∧ I 85 f = m.2.2.2.2 f
/-- what is told of is told at a time, and taken back at one -/
def fmT (m : FM) : Prop := ∀ f, f < m.1 → m.2.2.2.2 f = -1 ∨ 0 ≤ m.2.2.2.2 f
def frF8 (I : wr_TI) (L : wr_TL) (I' : wr_TI) (L' : wr_TL) : Prop := frM (fun b => b = 83 ∨ b = 84 ∨ b = 85) (fun k => k = 69 ∨ k = 70) I I' ∧ ∀ b, b ≠ 86 → L' b = L b
theorem frF8_rf {I : wr_TI} {L : wr_TL} : frF8 I L I L := ⟨frM_rf, fun _ _ => rfl⟩
set_option maxHeartbeats 4000000 in
set_option maxRecDepth 100000 in
theorem xW_film {l : Launch} {I : wr_TI} {L : wr_TL} {R : wr_TR} (hR : wr_RC R) (g : RG) (hg : I 55 28 = nI (gN g)) (h6 : 6 ≤ gN g) (h40 : gN g ≤ 40) (m : FM) (tm : Int32) (hM : mfV I L m) (htm : I 55 70 = tm) (x : Int32) (u : Int64) : wr_P l 0 mX8_film [.ref 55, .int x, .long u] SH I L R (fun v s' I' L' R' => v = some (.int (aFilm g m tm x u).1) ∧ s' = SH ∧ R' = R ∧ mfV I' L' (aFilm g m tm x u).2 ∧ I' 55 70 = tm ∧ frF8 I L I' L') := by
  obtain ⟨m0, m1, m2⟩ := id hM
  refine wv_pad 0 ?_
  show wr_V l 0 mX8_film 0 [some (.ref 55), some (.int x), some (.long u), none] [] SH I L R 0 0 _
  refine wv_iload_n dX8_film_0 rfl ?_
  refine wv_if_lt (tgt := 30) dX8_film_1 (by decide) (fun h1 => ?_) (fun h1 => ?_)
  · refine wv_iconst (v := (-1)) dX8_film_30 (by decide) ?_
    refine wv_iret rfl dX8_film_31 ?_
    have e : aFilm g m tm x u = (-1, m) := by unfold aFilm; rw [if_neg]; grind
    rw [e]
    exact ⟨rfl, rfl, rfl, hM, htm, frF8_rf⟩
  · refine wv_iload_n dX8_film_4 rfl ?_
    refine wv_bipush (v := 40) dX8_film_5 (by decide) ?_
    refine wv_icmp_ge (tgt := 30) dX8_film_7 (by decide) (fun h7 => ?_) (fun h7 => ?_)
    · refine wv_iconst (v := (-1)) dX8_film_30 (by decide) ?_
      refine wv_iret rfl dX8_film_31 ?_
      have e : aFilm g m tm x u = (-1, m) := by unfold aFilm; rw [if_neg]; grind
      rw [e]
      exact ⟨rfl, rfl, rfl, hM, htm, frF8_rf⟩
    · refine wv_lload_n dX8_film_10 rfl ?_
      refine wv_aload_n dX8_film_11 rfl ?_
      refine wv_getI fX8_151 dX8_film_12 rfl (by first | assumption | rfl) ?_
      refine wv_lshr dX8_film_15 ?_
      refine wv_lconst (v := 0) dX8_film_16 (by decide) ?_
      refine wv_lcmp dX8_film_17 ?_
      refine wv_if_ne (tgt := 30) dX8_film_18 (by decide) (fun h18 => ?_) (fun h18 => ?_)
      · rw [lg_cmp_eq, hg, uIn_sh h40 (by omega)] at h18
        refine wv_iconst (v := (-1)) dX8_film_30 (by decide) ?_
        refine wv_iret rfl dX8_film_31 ?_
        have e : aFilm g m tm x u = (-1, m) := by unfold aFilm; rw [if_neg]; grind
        rw [e]
        exact ⟨rfl, rfl, rfl, hM, htm, frF8_rf⟩
      · rw [lg_cmp_eq, hg, uIn_sh h40 (by omega)] at h18
        refine wv_aload_n dX8_film_21 rfl ?_
        refine wv_getI fX8_378 dX8_film_22 rfl (by first | assumption | rfl) ?_
        refine wv_bipush (v := 60) dX8_film_25 (by decide) ?_
        refine wv_icmp_ne (tgt := 32) dX8_film_27 (by decide) (fun h27 => ?_) (fun h27 => ?_)
        · rw [m0] at h27
          have hm : m.1 < 60 := by rcases (by omega : m.1 < 60 ∨ m.1 = 60) with h | h; exact h; exact absurd (by rw [h]; rfl) h27
          have hx : 0 ≤ x ∧ x < 40 := ⟨Int32.not_lt.mp h1, Int32.not_le.mp h7⟩
          obtain ⟨a, ha, rfl⟩ := ix_of (n := 40) hx (by omega)
          have hb : vp_in (nI m.1) 60 := vp_in_nI hm (by decide)
          refine wv_aload_n dX8_film_32 rfl ?_
          refine wv_getR fX8_99 dX8_film_33 rfl (by first | assumption | rfl) (by first | exact hR _ _ _ rfl | assumption) ?_
          refine wv_aload_n dX8_film_36 rfl ?_
          refine wv_getI fX8_378 dX8_film_37 rfl (by first | assumption | rfl) ?_
          refine wv_iload_n dX8_film_40 rfl ?_
          refine wv_iast dX8_film_41 (by first | assumption | rfl) (by show vp_in (I 55 69) 60; rw [m0]; exact hb) ?_
          refine wv_aload_n dX8_film_42 rfl ?_
          refine wv_getR fX8_108 dX8_film_43 rfl (by first | assumption | rfl) (by first | exact hR _ _ _ rfl | assumption) ?_
          refine wv_aload_n dX8_film_46 rfl ?_
          refine wv_getI fX8_378 dX8_film_47 rfl (by first | assumption | rfl) ?_
          refine wv_lload_n dX8_film_50 rfl ?_
          refine wv_last dX8_film_51 (by first | assumption | rfl) (by show vp_in (I 55 69) 60; rw [m0]; exact hb) ?_
          refine wv_aload_n dX8_film_52 rfl ?_
          refine wv_getR fX8_102 dX8_film_53 rfl (by first | assumption | rfl) (by first | exact hR _ _ _ rfl | assumption) ?_
          refine wv_aload_n dX8_film_56 rfl ?_
          refine wv_getI fX8_378 dX8_film_57 rfl (by first | assumption | rfl) ?_
          refine wv_aload_n dX8_film_60 rfl ?_
          refine wv_getI fX8_473 dX8_film_61 rfl (by first | assumption | rfl) ?_
          refine wv_iast dX8_film_64 (by first | assumption | rfl) (by show vp_in (I 55 69) 60; rw [m0]; exact hb) ?_
          refine wv_aload_n dX8_film_65 rfl ?_
          refine wv_getR fX8_105 dX8_film_66 rfl (by first | assumption | rfl) (by first | exact hR _ _ _ rfl | assumption) ?_
          refine wv_aload_n dX8_film_69 rfl ?_
          refine wv_getI fX8_378 dX8_film_70 rfl (by first | assumption | rfl) ?_
          refine wv_iconst (v := (-1)) dX8_film_73 (by decide) ?_
          refine wv_iast dX8_film_74 (by first | assumption | rfl) (by show vp_in (I 55 69) 60; rw [m0]; exact hb) ?_
          refine wv_aload_n dX8_film_75 rfl ?_
          refine wv_dup dX8_film_76 rfl ?_
          refine wv_getI fX8_378 dX8_film_77 rfl (by first | assumption | rfl) ?_
          refine wv_iconst (v := 1) dX8_film_80 (by decide) ?_
          refine wv_iadd dX8_film_81 ?_
          refine wv_putI fX8_378 dX8_film_82 rfl rfl rfl rfl (by first | assumption | rfl) ?_
          refine wv_aload_n dX8_film_85 rfl ?_
          refine wv_getI fX8_378 dX8_film_86 rfl (by first | assumption | rfl) ?_
          refine wv_iconst (v := 1) dX8_film_89 (by decide) ?_
          refine wv_isub dX8_film_90 ?_
          refine wv_iret rfl dX8_film_91 ?_
          have e : aFilm g m tm (nI a) u = (nI m.1, tlM m a u tm) := by unfold aFilm; rw [if_pos ⟨hx, h18, hm⟩, tN_nI (by omega)]
          rw [e]
          refine ⟨by simp [wr_uI, m0], rfl, rfl, ⟨?_, ?_, fun f hf => ?_⟩, ?_, ⟨?_, ?_⟩, ?_⟩
          · simp [wr_uI, m0, tlM]
            exact nI_1 _
          · simp only [tlM]; omega
          · simp only [tlM] at hf
            by_cases hfe : f = m.1
            · subst hfe
              simp [wr_uI, wr_uL, m0, tlM, nI_clamp (show m.1 < 2 ^ 31 by omega), ha, htm]
            · have := m2 f (by omega)
              simpa [wr_uI, wr_uL, m0, tlM, nI_clamp (show m.1 < 2 ^ 31 by omega), hfe] using this
          · simp [wr_uI, htm]
          · intro b h1 h2
            funext d
            simp only [not_or] at h2
            simp [wr_uI, h1, h2.1, h2.2.1, h2.2.2]
          · intro d h1
            simp only [not_or] at h1
            simp [wr_uI, h1.1]
          · intro b h1
            funext d
            simp [wr_uL, h1]
        · rw [m0] at h27
          have hm : ¬ m.1 < 60 := fun z => Nat.lt_irrefl 60 (by rw [(nI_eq (b := 60) (by omega) (by omega)).mp h27] at z; exact z)
          refine wv_iconst (v := (-1)) dX8_film_30 (by decide) ?_
          refine wv_iret rfl dX8_film_31 ?_
          have e : aFilm g m tm x u = (-1, m) := by unfold aFilm; rw [if_neg]; grind
          rw [e]
          exact ⟨rfl, rfl, rfl, hM, htm, frF8_rf⟩

set_option maxHeartbeats 4000000 in
set_option maxRecDepth 100000 in
theorem xW_untell {l : Launch} {I : wr_TI} {L : wr_TL} {R : wr_TR} (hR : wr_RC R) (m : FM) (tm : Int32) (hM : mfV I L m) (hN : fmT m) (htm : I 55 70 = tm) (x : Int32) : wr_P l 0 mX8_untell [.ref 55, .int x] SH I L R (fun v s' I' L' R' => v = some (.int (aUntell m tm x).1) ∧ s' = SH ∧ R' = R ∧ mfV I' L' (aUntell m tm x).2 ∧ I' 55 70 = tm ∧ frF8 I L I' L') := by
  obtain ⟨m0, m1, m2⟩ := id hM
  by_cases hx : 0 ≤ x ∧ x < nI m.1
  · obtain ⟨a, ha, rfl⟩ := ix_of hx (by omega)
    obtain ⟨f1, f2, f3, f4, f5⟩ := m2 a ha
    have hNa := hN a ha
    refine wv_pad 0 ?_
    show wr_V l 0 mX8_untell 0 [some (.ref 55), some (.int (nI a))] [] SH I L R 0 0 _
    refine wv_iload_n dX8_untell_0 rfl ?_
    refine wv_if_lt (tgt := 21) dX8_untell_1 (by decide) (fun h1 => absurd h1 (nI_pos (by omega))) (fun h1 => ?_)
    refine wv_iload_n dX8_untell_4 rfl ?_
    refine wv_aload_n dX8_untell_5 rfl ?_
    refine wv_getI fX8_378 dX8_untell_6 rfl (by first | assumption | rfl) ?_
    refine wv_icmp_ge (tgt := 21) dX8_untell_9 (by decide) (fun h9 => absurd h9 (by rw [m0]; exact nI_ge ha (by omega))) (fun h9 => ?_)
    refine wv_aload_n dX8_untell_12 rfl ?_
    refine wv_getR fX8_105 dX8_untell_13 rfl (by first | assumption | rfl) (by first | exact hR _ _ _ rfl | assumption) ?_
    refine wv_iload_n dX8_untell_16 rfl ?_
    refine wv_ialdN dX8_untell_17 (by first | assumption | rfl) (by omega) (by decide) ?_
    refine wv_if_lt (tgt := 23) dX8_untell_18 (by decide) (fun h18 => ?_) (fun h18 => ?_)
    · rw [f5] at h18
      refine wv_aload_n dX8_untell_23 rfl ?_
      refine wv_getR fX8_105 dX8_untell_24 rfl (by first | assumption | rfl) (by first | exact hR _ _ _ rfl | assumption) ?_
      refine wv_iload_n dX8_untell_27 rfl ?_
      refine wv_aload_n dX8_untell_28 rfl ?_
      refine wv_getI fX8_473 dX8_untell_29 rfl (by first | assumption | rfl) ?_
      refine wv_iastN dX8_untell_32 (by first | assumption | rfl) (by omega) (by decide) ?_
      refine wv_iconst (v := 1) dX8_untell_33 (by decide) ?_
      refine wv_zret rfl rfl dX8_untell_34 ?_
      have e : aUntell m tm (nI a) = (1, tbM m a tm) := by unfold aUntell; rw [tN_nI (by omega), if_pos ⟨hx, hNa.resolve_right (Int32.not_le.mpr h18)⟩]
      rw [e]
      refine ⟨rfl, rfl, rfl, ⟨?_, ?_, fun f hf => ?_⟩, ?_, ⟨?_, ?_⟩, ?_⟩
      · simpa [wr_uI, tbM] using m0
      · exact m1
      · have := m2 f hf
        by_cases hfe : f = a
        · subst hfe
          simpa [wr_uI, tbM, htm] using ⟨this.1, this.2.1, this.2.2.1, this.2.2.2.1⟩
        · simpa [wr_uI, tbM, hfe] using this
      · simp [wr_uI, htm]
      · intro b h1 h2
        funext d
        simp only [not_or] at h2
        simp [wr_uI, h2.2.2]
      · intro d h1
        simp [wr_uI]
      · intro b h1
        rfl
    · rw [f5] at h18
      refine wv_iconst (v := 0) dX8_untell_21 (by decide) ?_
      refine wv_zret rfl rfl dX8_untell_22 ?_
      have e : aUntell m tm (nI a) = (0, m) := by unfold aUntell; rw [tN_nI (by omega), if_neg (fun z => h18 (by rw [z.2]; decide))]
      rw [e]
      exact ⟨rfl, rfl, rfl, hM, htm, frF8_rf⟩
  · have e : aUntell m tm x = (0, m) := by unfold aUntell; rw [if_neg (fun z => hx z.1)]
    rw [e]
    refine wv_pad 0 ?_
    show wr_V l 0 mX8_untell 0 [some (.ref 55), some (.int x)] [] SH I L R 0 0 _
    refine wv_iload_n dX8_untell_0 rfl ?_
    refine wv_if_lt (tgt := 21) dX8_untell_1 (by decide) (fun h1 => ?_) (fun h1 => ?_)
    · refine wv_iconst (v := 0) dX8_untell_21 (by decide) ?_
      refine wv_zret rfl rfl dX8_untell_22 ?_
      exact ⟨rfl, rfl, rfl, hM, htm, frF8_rf⟩
    · refine wv_iload_n dX8_untell_4 rfl ?_
      refine wv_aload_n dX8_untell_5 rfl ?_
      refine wv_getI fX8_378 dX8_untell_6 rfl (by first | assumption | rfl) ?_
      refine wv_icmp_ge (tgt := 21) dX8_untell_9 (by decide) (fun h9 => ?_) (fun h9 => ?_)
      · rw [m0] at h9
        refine wv_iconst (v := 0) dX8_untell_21 (by decide) ?_
        refine wv_zret rfl rfl dX8_untell_22 ?_
        exact ⟨rfl, rfl, rfl, hM, htm, frF8_rf⟩
      · rw [m0] at h9
        exact absurd ⟨Int32.not_lt.mp h1, Int32.not_le.mp h9⟩ hx

set_option maxHeartbeats 4000000 in
set_option maxRecDepth 100000 in
theorem xW_later {l : Launch} {I : wr_TI} {L : wr_TL} {R : wr_TR} (hR : wr_RC R) (m : FM) (tm : Int32) (hM : mfV I L m) (htm : I 55 70 = tm) (ht0 : 0 ≤ tm) (ht1 : tm ≤ 100000) (x : Int32) : wr_P l 0 mX8_later [.ref 55, .int x] SH I L R (fun v s' I' L' R' => v = some (.int (aLater tm x).1) ∧ s' = SH ∧ R' = R ∧ mfV I' L' m ∧ I' 55 70 = (aLater tm x).2 ∧ frF8 I L I' L') := by
  obtain ⟨m0, m1, m2⟩ := id hM
  refine wv_pad 0 ?_
  show wr_V l 0 mX8_later 0 [some (.ref 55), some (.int x)] [] SH I L R 0 0 _
  refine wv_iload_n dX8_later_0 rfl ?_
  refine wv_if_lt (tgt := 23) dX8_later_1 (by decide) (fun h1 => ?_) (fun h1 => ?_)
  · refine wv_iconst (v := (-1)) dX8_later_23 (by decide) ?_
    refine wv_iret rfl dX8_later_24 ?_
    have e : aLater tm x = (-1, tm) := by unfold aLater; rw [if_neg]; clear hM m0 m1 m2 htm; grind
    rw [e]
    exact ⟨rfl, rfl, rfl, hM, htm, frF8_rf⟩
  · refine wv_iload_n dX8_later_4 rfl ?_
    refine wv_sipush (v := 1000) dX8_later_5 (by decide) ?_
    refine wv_icmp_gt (tgt := 23) dX8_later_8 (by decide) (fun h8 => ?_) (fun h8 => ?_)
    · refine wv_iconst (v := (-1)) dX8_later_23 (by decide) ?_
      refine wv_iret rfl dX8_later_24 ?_
      have e : aLater tm x = (-1, tm) := by unfold aLater; rw [if_neg]; clear hM m0 m1 m2 htm; grind
      rw [e]
      exact ⟨rfl, rfl, rfl, hM, htm, frF8_rf⟩
    · refine wv_aload_n dX8_later_11 rfl ?_
      refine wv_getI fX8_473 dX8_later_12 rfl rfl ?_
      refine wv_iload_n dX8_later_15 rfl ?_
      refine wv_iadd dX8_later_16 ?_
      refine wv_ldc_w nX8_476 dX8_later_17 ?_
      refine wv_icmp_le (tgt := 25) dX8_later_20 (by decide) (fun h20 => ?_) (fun h20 => ?_)
      · rw [htm] at h20
        refine wv_aload_n dX8_later_25 rfl ?_
        refine wv_dup dX8_later_26 rfl ?_
        refine wv_getI fX8_473 dX8_later_27 rfl rfl ?_
        refine wv_iload_n dX8_later_30 rfl ?_
        refine wv_iadd dX8_later_31 ?_
        refine wv_putI fX8_473 dX8_later_32 rfl rfl rfl rfl rfl ?_
        refine wv_aload_n dX8_later_35 rfl ?_
        refine wv_getI fX8_473 dX8_later_36 rfl rfl ?_
        refine wv_iret rfl dX8_later_39 ?_
        have e : aLater tm x = (tm + x, tm + x) := by unfold aLater; rw [if_pos]; clear hM m0 m1 m2 htm; grind
        rw [e]
        refine ⟨by simp [wr_uI, htm], rfl, rfl, ⟨by simpa [wr_uI] using m0, m1, fun f hf => by simpa [wr_uI] using m2 f hf⟩, by simp [wr_uI, htm], ⟨?_, ?_⟩, ?_⟩
        · intro b h1 h2
          funext d
          simp [wr_uI, h1]
        · intro d h1
          simp only [not_or] at h1
          simp [wr_uI, h1.2]
        · intro b h1
          rfl
      · rw [htm] at h20
        refine wv_iconst (v := (-1)) dX8_later_23 (by decide) ?_
        refine wv_iret rfl dX8_later_24 ?_
        have e : aLater tm x = (-1, tm) := by unfold aLater; rw [if_neg]; clear hM m0 m1 m2 htm; grind
        rw [e]
        exact ⟨rfl, rfl, rfl, hM, htm, frF8_rf⟩

