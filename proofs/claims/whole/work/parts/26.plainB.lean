/-- who is seen, after i looks -/
def ck (g : RG) (a : Nat) (f : Nat → Bool) (i s : Nat) : Nat := (if a / 108 = 1 then 0 else sL f (gN g) s ((i + 1) / 2)) + (if a / 108 = 0 then 0 else sR f (gN g) s (i / 2))
theorem ck_b (k c : Nat) (h : Bool) : decide (k + 1 ≤ c + (if h = true then 1 else 0)) = (decide (k + 1 ≤ c) || (decide (k ≤ c) && h)) := by
  cases h
  · simp
  · simp
    omega
set_option maxHeartbeats 4000000 in
set_option maxRecDepth 100000 in
theorem cP_see {l : Launch} {I : wr_TI} {L : wr_TL} {R : wr_TR} (q t a : Nat) (g : RG) (hq : SH[q]? = some (.inr 3)) (ht : SH[t]? = some (.inr 5)) (hV : rgV I L t g) (hT : plT I R q t a g) (ha : a < 324) (hL : ∀ s, gN g ≤ s → lb (L q 7) s = false) : wr_P l 2 mX3_thoseWhoSee [.ref q] SH I L R (fun v s' I' L' R' => (∃ x, v = some (.long x) ∧ ∀ s, s < 64 → lb x s = (decide (s < gN g) && decide (a / 12 % 3 + 1 ≤ ck g a (lb (L q 7)) (2 * pm g a) s))) ∧ s' = SH ∧ I' = I ∧ L' = L ∧ R' = R) := by
  have hn := hV.1
  have hn6 := hV.2.1
  have hn40 := hV.2.2.1
  obtain ⟨hr0, hll', hlr', hsg, hne, hup, hre⟩ := hT
  have hpm : pm g a ≤ 3 := by unfold pm; omega
  have hpn : pm g a < gN g := by unfold pm; omega
  have h2m : (2 : Int32) * nI (pm g a) = nI (2 * pm g a) := pk_mul 2 (pm g a)
  have lp : ∀ (k i : Nat) (x1 x2 x3 : Int64), i + k = 2 * pm g a → (∀ s, s < 64 → lb x1 s = (decide (s < gN g) && decide (1 ≤ ck g a (lb (L q 7)) i s))) → (∀ s, s < 64 → lb x2 s = (decide (s < gN g) && decide (2 ≤ ck g a (lb (L q 7)) i s))) → (∀ s, s < 64 → lb x3 s = (decide (s < gN g) && decide (3 ≤ ck g a (lb (L q 7)) i s))) → wr_V l 2 mX3_thoseWhoSee 10 [some (.ref q), some (.long x1), none, some (.long x2), none, some (.long x3), none, some (.int (nI i)), none, none, none, none] [] SH I L R 0 0 (fun v s' I' L' R' => (∃ x, v = some (.long x) ∧ ∀ s, s < 64 → lb x s = (decide (s < gN g) && decide (a / 12 % 3 + 1 ≤ ck g a (lb (L q 7)) (2 * pm g a) s))) ∧ s' = SH ∧ I' = I ∧ L' = L ∧ R' = R) := by
    intro k
    induction k with
    | zero =>
      intro i x1 x2 x3 hi i1 i2 i3
      obtain rfl : i = 2 * pm g a := by omega
      refine wv_iload dX3_thoseWhoSee_10 rfl ?_
      refine wv_iconst (v := 2) dX3_thoseWhoSee_12 (by decide) ?_
      refine wv_aload_n dX3_thoseWhoSee_13 rfl ?_
      refine wv_getI fX3_29 dX3_thoseWhoSee_14 rfl (by first | assumption | rfl) ?_
      refine wv_imul dX3_thoseWhoSee_17 ?_
      refine wv_icmp_ge (tgt := 125) dX3_thoseWhoSee_18 (by decide) (fun h18 => ?_) (fun h18 => absurd (by rw [hsg, h2m]; exact nI_le (Nat.le_refl _) (by omega)) h18)
      refine wv_aload_n dX3_thoseWhoSee_125 rfl ?_
      refine wv_getI fX3_20 dX3_thoseWhoSee_126 rfl (by first | assumption | rfl) ?_
      refine wv_iconst (v := 1) dX3_thoseWhoSee_129 (by decide) ?_
      refine wv_icmp_ne (tgt := 137) dX3_thoseWhoSee_130 (by decide) (fun h130 => ?_) (fun h130 => ?_)
      · rw [hne] at h130
        have hz1 : ¬ a / 12 % 3 + 1 = 1 := fun z => h130 (by rw [z]; rfl)
        refine wv_aload_n dX3_thoseWhoSee_137 rfl ?_
        refine wv_getI fX3_20 dX3_thoseWhoSee_138 rfl (by first | assumption | rfl) ?_
        refine wv_iconst (v := 2) dX3_thoseWhoSee_141 (by decide) ?_
        refine wv_icmp_ne (tgt := 149) dX3_thoseWhoSee_142 (by decide) (fun h142 => ?_) (fun h142 => ?_)
        · rw [hne] at h142
          have hz2 : ¬ a / 12 % 3 + 1 = 2 := fun z => h142 (by rw [z]; rfl)
          have hz : a / 12 % 3 + 1 = 3 := by omega
          refine wv_lload dX3_thoseWhoSee_149 rfl ?_
          refine wv_lret rfl dX3_thoseWhoSee_151 ?_
          refine ⟨⟨_, rfl, fun s hs => ?_⟩, rfl, rfl, rfl, rfl⟩
          rw [hz]
          first | exact i1 s hs | exact i2 s hs | exact i3 s hs
        · rw [hne] at h142
          have hz : a / 12 % 3 + 1 = 2 := (nI_eq (b := 2) (by omega) (by omega)).mp h142
          refine wv_lload_n dX3_thoseWhoSee_145 rfl ?_
          refine wv_goto (tgt := 151) dX3_thoseWhoSee_146 (by decide) ?_
          refine wv_lret rfl dX3_thoseWhoSee_151 ?_
          refine ⟨⟨_, rfl, fun s hs => ?_⟩, rfl, rfl, rfl, rfl⟩
          rw [hz]
          first | exact i1 s hs | exact i2 s hs | exact i3 s hs
      · rw [hne] at h130
        have hz : a / 12 % 3 + 1 = 1 := (nI_eq (b := 1) (by omega) (by omega)).mp h130
        refine wv_lload_n dX3_thoseWhoSee_133 rfl ?_
        refine wv_goto (tgt := 151) dX3_thoseWhoSee_134 (by decide) ?_
        refine wv_lret rfl dX3_thoseWhoSee_151 ?_
        refine ⟨⟨_, rfl, fun s hs => ?_⟩, rfl, rfl, rfl, rfl⟩
        rw [hz]
        first | exact i1 s hs | exact i2 s hs | exact i3 s hs
    | succ k ih =>
      intro i x1 x2 x3 hi i1 i2 i3
      have kd : nI i / 2 = nI (i / 2) := pk_div (d := 2) (by omega) (by omega) (by omega)
      have kr : nI i - nI i / 2 * 2 = nI (i % 2) := pk_rem (d := 2) (by omega) (by omega) (by omega)
      rcases Nat.mod_two_eq_zero_or_one i with hev | hev
      · by_cases hsd : a / 108 = 1
        · have hll : I q 1 = 0 := by rw [hll', if_pos hsd]
          have hck : ∀ s, ck g a (lb (L q 7)) (i + 1) s = ck g a (lb (L q 7)) i s := by
            intro s
            unfold ck
            rw [if_pos hsd, if_pos hsd, show (i + 1) / 2 = i / 2 by omega]
          refine wv_iload dX3_thoseWhoSee_10 rfl ?_
          refine wv_iconst (v := 2) dX3_thoseWhoSee_12 (by decide) ?_
          refine wv_aload_n dX3_thoseWhoSee_13 rfl ?_
          refine wv_getI fX3_29 dX3_thoseWhoSee_14 rfl (by first | assumption | rfl) ?_
          refine wv_imul dX3_thoseWhoSee_17 ?_
          refine wv_icmp_ge (tgt := 125) dX3_thoseWhoSee_18 (by decide) (fun h18 => absurd h18 (by rw [hsg, h2m]; exact nI_ge (by omega) (by omega))) (fun h18 => ?_)
          refine wv_iload dX3_thoseWhoSee_21 rfl ?_
          refine wv_iconst (v := 2) dX3_thoseWhoSee_23 (by decide) ?_
          refine wv_idiv dX3_thoseWhoSee_24 (show ¬ (2 : Int32) = 0 by decide) ?_
          rw [kd]
          refine wv_iconst (v := 1) dX3_thoseWhoSee_25 (by decide) ?_
          refine wv_iadd dX3_thoseWhoSee_26 ?_
          rw [nI_1]
          refine wv_istore dX3_thoseWhoSee_27 (by decide) ?_
          refine wv_iload dX3_thoseWhoSee_29 rfl ?_
          refine wv_iconst (v := 2) dX3_thoseWhoSee_31 (by decide) ?_
          refine wv_irem dX3_thoseWhoSee_32 (show ¬ (2 : Int32) = 0 by decide) ?_
          refine wv_if_ne (tgt := 40) dX3_thoseWhoSee_33 (by decide) (fun h33 => absurd (by rw [kr, hev]; rfl) h33) (fun h33 => ?_)
          refine wv_iconst (v := 1) dX3_thoseWhoSee_36 (by decide) ?_
          refine wv_goto (tgt := 41) dX3_thoseWhoSee_37 (by decide) ?_
          refine wv_istore dX3_thoseWhoSee_41 (by decide) ?_
          refine wv_iload dX3_thoseWhoSee_43 rfl ?_
          refine wv_if_eq (tgt := 58) dX3_thoseWhoSee_45 (by decide) (fun h45 => absurd h45 (by decide)) (fun h45 => ?_)
          refine wv_aload_n dX3_thoseWhoSee_48 rfl ?_
          refine wv_getI fX3_32 dX3_thoseWhoSee_49 rfl (by first | assumption | rfl) ?_
          refine wv_if_eq (tgt := 119) dX3_thoseWhoSee_52 (by decide) (fun h52 => ?_) (fun h52 => absurd (by rw [hll]) h52)
          refine wv_iinc (v := nI (i + 1)) dX3_thoseWhoSee_119 rfl (nI_1 (i)) (by decide) ?_
          refine wv_goto (tgt := 10) dX3_thoseWhoSee_122 (by decide) ?_
          have hck0 : ∀ s, ck g a (lb (L q 7)) (i + 1) s = ck g a (lb (L q 7)) i s := hck
          refine wv_le (by simp [wr_leq, wr_s1, wr_s2, wr_wide]) (ih (i + 1) x1 x2 x3 (by omega) (fun s hs => by rw [hck0]; exact i1 s hs) (fun s hs => by rw [hck0]; exact i2 s hs) (fun s hs => by rw [hck0]; exact i3 s hs))
        · have hll : I q 1 = 1 := by rw [hll', if_neg hsd]
          obtain ⟨hh, hhd⟩ : ∃ hh, hh = tu (I t 5) (nI (i / 2 + 1)) (L q 7) := ⟨_, rfl⟩
          have hhb : ∀ s, s < 64 → lb hh s = (decide (s < gN g) && lb (L q 7) ((s + gN g - (i / 2 + 1)) % gN g)) := fun s _ => by rw [hhd, hn, tu_lb (by omega) hn40 hL]
          have hck : ∀ s, ck g a (lb (L q 7)) (i + 1) s = ck g a (lb (L q 7)) i s + (if lb (L q 7) ((s + gN g - (i / 2 + 1)) % gN g) = true then 1 else 0) := by
            intro s
            unfold ck
            rw [if_neg hsd, if_neg hsd, show (i + 1 + 1) / 2 = i / 2 + 1 by omega, show (i + 1) / 2 = i / 2 by omega]
            simp only [sL, cn]
            omega
          have hsub : tu (I t 5) (nI (i / 2 + 1)) (L q 7) = hh := hhd.symm
          refine wv_iload dX3_thoseWhoSee_10 rfl ?_
          refine wv_iconst (v := 2) dX3_thoseWhoSee_12 (by decide) ?_
          refine wv_aload_n dX3_thoseWhoSee_13 rfl ?_
          refine wv_getI fX3_29 dX3_thoseWhoSee_14 rfl (by first | assumption | rfl) ?_
          refine wv_imul dX3_thoseWhoSee_17 ?_
          refine wv_icmp_ge (tgt := 125) dX3_thoseWhoSee_18 (by decide) (fun h18 => absurd h18 (by rw [hsg, h2m]; exact nI_ge (by omega) (by omega))) (fun h18 => ?_)
          refine wv_iload dX3_thoseWhoSee_21 rfl ?_
          refine wv_iconst (v := 2) dX3_thoseWhoSee_23 (by decide) ?_
          refine wv_idiv dX3_thoseWhoSee_24 (show ¬ (2 : Int32) = 0 by decide) ?_
          rw [kd]
          refine wv_iconst (v := 1) dX3_thoseWhoSee_25 (by decide) ?_
          refine wv_iadd dX3_thoseWhoSee_26 ?_
          rw [nI_1]
          refine wv_istore dX3_thoseWhoSee_27 (by decide) ?_
          refine wv_iload dX3_thoseWhoSee_29 rfl ?_
          refine wv_iconst (v := 2) dX3_thoseWhoSee_31 (by decide) ?_
          refine wv_irem dX3_thoseWhoSee_32 (show ¬ (2 : Int32) = 0 by decide) ?_
          refine wv_if_ne (tgt := 40) dX3_thoseWhoSee_33 (by decide) (fun h33 => absurd (by rw [kr, hev]; rfl) h33) (fun h33 => ?_)
          refine wv_iconst (v := 1) dX3_thoseWhoSee_36 (by decide) ?_
          refine wv_goto (tgt := 41) dX3_thoseWhoSee_37 (by decide) ?_
          refine wv_istore dX3_thoseWhoSee_41 (by decide) ?_
          refine wv_iload dX3_thoseWhoSee_43 rfl ?_
          refine wv_if_eq (tgt := 58) dX3_thoseWhoSee_45 (by decide) (fun h45 => absurd h45 (by decide)) (fun h45 => ?_)
          refine wv_aload_n dX3_thoseWhoSee_48 rfl ?_
          refine wv_getI fX3_32 dX3_thoseWhoSee_49 rfl (by first | assumption | rfl) ?_
          refine wv_if_eq (tgt := 119) dX3_thoseWhoSee_52 (by decide) (fun h52 => absurd h52 (by rw [hll]; decide)) (fun h52 => ?_)
          refine wv_goto (tgt := 65) dX3_thoseWhoSee_55 (by decide) ?_
          refine wv_aload_n dX3_thoseWhoSee_65 rfl ?_
          refine wv_getR fX3_7 dX3_thoseWhoSee_66 rfl (by first | assumption | rfl) (by first | exact hR _ _ _ rfl | assumption) ?_
          refine wv_aload_n dX3_thoseWhoSee_69 rfl ?_
          refine wv_getL fX3_39 dX3_thoseWhoSee_70 rfl (by first | assumption | rfl) ?_
          refine wv_iload dX3_thoseWhoSee_73 rfl ?_
          refine wv_if_eq (tgt := 83) dX3_thoseWhoSee_75 (by decide) (fun h75 => absurd h75 (by decide)) (fun h75 => ?_)
          refine wv_iload dX3_thoseWhoSee_78 rfl ?_
          refine wv_goto (tgt := 93) dX3_thoseWhoSee_80 (by decide) ?_
          refine wv_v2e oX5_turned kX3_76 dX3_thoseWhoSee_93 (by omega) (by first | assumption | rfl) ⟨rfl, by decide⟩ (Nat.le_of_ble_eq_true rfl) (Nat.le_of_ble_eq_true rfl) (cR_turned t _ _ ht) ?_
          rw [hsub]
          refine wv_lstore dX3_thoseWhoSee_96 (by decide) ?_
          refine wv_lload dX3_thoseWhoSee_98 rfl ?_
          refine wv_lload_n dX3_thoseWhoSee_100 rfl ?_
          refine wv_lload dX3_thoseWhoSee_101 rfl ?_
          refine wv_land dX3_thoseWhoSee_103 ?_
          refine wv_lor dX3_thoseWhoSee_104 ?_
          refine wv_lstore dX3_thoseWhoSee_105 (by decide) ?_
          refine wv_lload_n dX3_thoseWhoSee_107 rfl ?_
          refine wv_lload_n dX3_thoseWhoSee_108 rfl ?_
          refine wv_lload dX3_thoseWhoSee_109 rfl ?_
          refine wv_land dX3_thoseWhoSee_111 ?_
          refine wv_lor dX3_thoseWhoSee_112 ?_
          refine wv_lstore_k (i := 3) dX3_thoseWhoSee_113 rfl (by decide) ?_
          refine wv_lload_n dX3_thoseWhoSee_114 rfl ?_
          refine wv_lload dX3_thoseWhoSee_115 rfl ?_
          refine wv_lor dX3_thoseWhoSee_117 ?_
          refine wv_lstore_k (i := 1) dX3_thoseWhoSee_118 rfl (by decide) ?_
          refine wv_iinc (v := nI (i + 1)) dX3_thoseWhoSee_119 rfl (nI_1 (i)) (by decide) ?_
          refine wv_goto (tgt := 10) dX3_thoseWhoSee_122 (by decide) ?_
          have step : ∀ (kk : Nat) (x y : Int64), (∀ s, s < 64 → lb x s = (decide (s < gN g) && decide (kk + 1 ≤ ck g a (lb (L q 7)) i s))) → (∀ s, s < 64 → lb y s = (decide (s < gN g) && decide (kk ≤ ck g a (lb (L q 7)) i s))) → ∀ s, s < 64 → lb (x ||| (y &&& hh)) s = (decide (s < gN g) && decide (kk + 1 ≤ ck g a (lb (L q 7)) (i + 1) s)) := by
            intro kk x y hx hy s hs
            rw [lb_or, lb_and, hx s hs, hy s hs, hhb s hs, hck s, ck_b]
            cases decide (s < gN g) <;> simp
          have step1 : ∀ s, s < 64 → lb (x1 ||| hh) s = (decide (s < gN g) && decide (1 ≤ ck g a (lb (L q 7)) (i + 1) s)) := by
            intro s hs
            rw [lb_or, i1 s hs, hhb s hs, hck s, ck_b 0]
            cases decide (s < gN g) <;> simp
          refine wv_le (by simp [wr_leq, wr_s1, wr_s2, wr_wide]) (ih (i + 1) (x1 ||| hh) (x2 ||| (x1 &&& hh)) (x3 ||| (x2 &&& hh)) (by omega) step1 (step 1 x2 x1 i2 i1) (step 2 x3 x2 i3 i2))
      · by_cases hsd : a / 108 = 0
        · have hlr : I q 2 = 0 := by rw [hlr', if_pos hsd]
          have hck : ∀ s, ck g a (lb (L q 7)) (i + 1) s = ck g a (lb (L q 7)) i s := by
            intro s
            unfold ck
            rw [if_pos hsd, if_pos hsd, show (i + 1 + 1) / 2 = (i + 1) / 2 by omega]
          refine wv_iload dX3_thoseWhoSee_10 rfl ?_
          refine wv_iconst (v := 2) dX3_thoseWhoSee_12 (by decide) ?_
          refine wv_aload_n dX3_thoseWhoSee_13 rfl ?_
          refine wv_getI fX3_29 dX3_thoseWhoSee_14 rfl (by first | assumption | rfl) ?_
          refine wv_imul dX3_thoseWhoSee_17 ?_
          refine wv_icmp_ge (tgt := 125) dX3_thoseWhoSee_18 (by decide) (fun h18 => absurd h18 (by rw [hsg, h2m]; exact nI_ge (by omega) (by omega))) (fun h18 => ?_)
          refine wv_iload dX3_thoseWhoSee_21 rfl ?_
          refine wv_iconst (v := 2) dX3_thoseWhoSee_23 (by decide) ?_
          refine wv_idiv dX3_thoseWhoSee_24 (show ¬ (2 : Int32) = 0 by decide) ?_
          rw [kd]
          refine wv_iconst (v := 1) dX3_thoseWhoSee_25 (by decide) ?_
          refine wv_iadd dX3_thoseWhoSee_26 ?_
          rw [nI_1]
          refine wv_istore dX3_thoseWhoSee_27 (by decide) ?_
          refine wv_iload dX3_thoseWhoSee_29 rfl ?_
          refine wv_iconst (v := 2) dX3_thoseWhoSee_31 (by decide) ?_
          refine wv_irem dX3_thoseWhoSee_32 (show ¬ (2 : Int32) = 0 by decide) ?_
          refine wv_if_ne (tgt := 40) dX3_thoseWhoSee_33 (by decide) (fun h33 => ?_) (fun h33 => absurd h33 (by rw [kr, hev]; decide))
          refine wv_iconst (v := 0) dX3_thoseWhoSee_40 (by decide) ?_
          refine wv_istore dX3_thoseWhoSee_41 (by decide) ?_
          refine wv_iload dX3_thoseWhoSee_43 rfl ?_
          refine wv_if_eq (tgt := 58) dX3_thoseWhoSee_45 (by decide) (fun h45 => ?_) (fun h45 => absurd (show (0 : Int32) = 0 from rfl) h45)
          refine wv_aload_n dX3_thoseWhoSee_58 rfl ?_
          refine wv_getI fX3_36 dX3_thoseWhoSee_59 rfl (by first | assumption | rfl) ?_
          refine wv_if_eq (tgt := 119) dX3_thoseWhoSee_62 (by decide) (fun h62 => ?_) (fun h62 => absurd (by rw [hlr]) h62)
          refine wv_iinc (v := nI (i + 1)) dX3_thoseWhoSee_119 rfl (nI_1 (i)) (by decide) ?_
          refine wv_goto (tgt := 10) dX3_thoseWhoSee_122 (by decide) ?_
          have hck0 : ∀ s, ck g a (lb (L q 7)) (i + 1) s = ck g a (lb (L q 7)) i s := hck
          refine wv_le (by simp [wr_leq, wr_s1, wr_s2, wr_wide]) (ih (i + 1) x1 x2 x3 (by omega) (fun s hs => by rw [hck0]; exact i1 s hs) (fun s hs => by rw [hck0]; exact i2 s hs) (fun s hs => by rw [hck0]; exact i3 s hs))
        · have hlr : I q 2 = 1 := by rw [hlr', if_neg hsd]
          obtain ⟨hh, hhd⟩ : ∃ hh, hh = tu (nI (gN g)) (nI (gN g) - nI (i / 2 + 1)) (L q 7) := ⟨_, rfl⟩
          have hhb : ∀ s, s < 64 → lb hh s = (decide (s < gN g) && lb (L q 7) ((s + (i / 2 + 1)) % gN g)) := fun s _ => by rw [hhd, pk_sub (by omega), tu_lb (by omega) hn40 hL, show s + gN g - (gN g - (i / 2 + 1)) = s + (i / 2 + 1) by omega]
          have hck : ∀ s, ck g a (lb (L q 7)) (i + 1) s = ck g a (lb (L q 7)) i s + (if lb (L q 7) ((s + (i / 2 + 1)) % gN g) = true then 1 else 0) := by
            intro s
            unfold ck
            rw [if_neg hsd, if_neg hsd, show (i + 1 + 1) / 2 = (i + 1) / 2 by omega, show (i + 1) / 2 = i / 2 + 1 by omega]
            simp only [sR, cn]
            omega
          have hsub : tu (I t 5) (nI (gN g) - nI (i / 2 + 1)) (L q 7) = hh := by rw [hn]; exact hhd.symm
          refine wv_iload dX3_thoseWhoSee_10 rfl ?_
          refine wv_iconst (v := 2) dX3_thoseWhoSee_12 (by decide) ?_
          refine wv_aload_n dX3_thoseWhoSee_13 rfl ?_
          refine wv_getI fX3_29 dX3_thoseWhoSee_14 rfl (by first | assumption | rfl) ?_
          refine wv_imul dX3_thoseWhoSee_17 ?_
          refine wv_icmp_ge (tgt := 125) dX3_thoseWhoSee_18 (by decide) (fun h18 => absurd h18 (by rw [hsg, h2m]; exact nI_ge (by omega) (by omega))) (fun h18 => ?_)
          refine wv_iload dX3_thoseWhoSee_21 rfl ?_
          refine wv_iconst (v := 2) dX3_thoseWhoSee_23 (by decide) ?_
          refine wv_idiv dX3_thoseWhoSee_24 (show ¬ (2 : Int32) = 0 by decide) ?_
          rw [kd]
          refine wv_iconst (v := 1) dX3_thoseWhoSee_25 (by decide) ?_
          refine wv_iadd dX3_thoseWhoSee_26 ?_
          rw [nI_1]
          refine wv_istore dX3_thoseWhoSee_27 (by decide) ?_
          refine wv_iload dX3_thoseWhoSee_29 rfl ?_
          refine wv_iconst (v := 2) dX3_thoseWhoSee_31 (by decide) ?_
          refine wv_irem dX3_thoseWhoSee_32 (show ¬ (2 : Int32) = 0 by decide) ?_
          refine wv_if_ne (tgt := 40) dX3_thoseWhoSee_33 (by decide) (fun h33 => ?_) (fun h33 => absurd h33 (by rw [kr, hev]; decide))
          refine wv_iconst (v := 0) dX3_thoseWhoSee_40 (by decide) ?_
          refine wv_istore dX3_thoseWhoSee_41 (by decide) ?_
          refine wv_iload dX3_thoseWhoSee_43 rfl ?_
          refine wv_if_eq (tgt := 58) dX3_thoseWhoSee_45 (by decide) (fun h45 => ?_) (fun h45 => absurd (show (0 : Int32) = 0 from rfl) h45)
          refine wv_aload_n dX3_thoseWhoSee_58 rfl ?_
          refine wv_getI fX3_36 dX3_thoseWhoSee_59 rfl (by first | assumption | rfl) ?_
          refine wv_if_eq (tgt := 119) dX3_thoseWhoSee_62 (by decide) (fun h62 => absurd h62 (by rw [hlr]; decide)) (fun h62 => ?_)
          refine wv_aload_n dX3_thoseWhoSee_65 rfl ?_
          refine wv_getR fX3_7 dX3_thoseWhoSee_66 rfl (by first | assumption | rfl) (by first | exact hR _ _ _ rfl | assumption) ?_
          refine wv_aload_n dX3_thoseWhoSee_69 rfl ?_
          refine wv_getL fX3_39 dX3_thoseWhoSee_70 rfl (by first | assumption | rfl) ?_
          refine wv_iload dX3_thoseWhoSee_73 rfl ?_
          refine wv_if_eq (tgt := 83) dX3_thoseWhoSee_75 (by decide) (fun h75 => ?_) (fun h75 => absurd (show (0 : Int32) = 0 from rfl) h75)
          refine wv_aload_n dX3_thoseWhoSee_83 rfl ?_
          refine wv_getR fX3_7 dX3_thoseWhoSee_84 rfl (by first | assumption | rfl) (by first | exact hR _ _ _ rfl | assumption) ?_
          refine wv_getI fX3_73 dX3_thoseWhoSee_87 rfl (by first | assumption | rfl) ?_
          refine wv_iload dX3_thoseWhoSee_90 rfl ?_
          refine wv_isub dX3_thoseWhoSee_92 ?_
          rw [hn]
          refine wv_v2e oX5_turned kX3_76 dX3_thoseWhoSee_93 (by omega) (by first | assumption | rfl) ⟨rfl, by decide⟩ (Nat.le_of_ble_eq_true rfl) (Nat.le_of_ble_eq_true rfl) (cR_turned t _ _ ht) ?_
          rw [hsub]
          refine wv_lstore dX3_thoseWhoSee_96 (by decide) ?_
          refine wv_lload dX3_thoseWhoSee_98 rfl ?_
          refine wv_lload_n dX3_thoseWhoSee_100 rfl ?_
          refine wv_lload dX3_thoseWhoSee_101 rfl ?_
          refine wv_land dX3_thoseWhoSee_103 ?_
          refine wv_lor dX3_thoseWhoSee_104 ?_
          refine wv_lstore dX3_thoseWhoSee_105 (by decide) ?_
          refine wv_lload_n dX3_thoseWhoSee_107 rfl ?_
          refine wv_lload_n dX3_thoseWhoSee_108 rfl ?_
          refine wv_lload dX3_thoseWhoSee_109 rfl ?_
          refine wv_land dX3_thoseWhoSee_111 ?_
          refine wv_lor dX3_thoseWhoSee_112 ?_
          refine wv_lstore_k (i := 3) dX3_thoseWhoSee_113 rfl (by decide) ?_
          refine wv_lload_n dX3_thoseWhoSee_114 rfl ?_
          refine wv_lload dX3_thoseWhoSee_115 rfl ?_
          refine wv_lor dX3_thoseWhoSee_117 ?_
          refine wv_lstore_k (i := 1) dX3_thoseWhoSee_118 rfl (by decide) ?_
          refine wv_iinc (v := nI (i + 1)) dX3_thoseWhoSee_119 rfl (nI_1 (i)) (by decide) ?_
          refine wv_goto (tgt := 10) dX3_thoseWhoSee_122 (by decide) ?_
          have step : ∀ (kk : Nat) (x y : Int64), (∀ s, s < 64 → lb x s = (decide (s < gN g) && decide (kk + 1 ≤ ck g a (lb (L q 7)) i s))) → (∀ s, s < 64 → lb y s = (decide (s < gN g) && decide (kk ≤ ck g a (lb (L q 7)) i s))) → ∀ s, s < 64 → lb (x ||| (y &&& hh)) s = (decide (s < gN g) && decide (kk + 1 ≤ ck g a (lb (L q 7)) (i + 1) s)) := by
            intro kk x y hx hy s hs
            rw [lb_or, lb_and, hx s hs, hy s hs, hhb s hs, hck s, ck_b]
            cases decide (s < gN g) <;> simp
          have step1 : ∀ s, s < 64 → lb (x1 ||| hh) s = (decide (s < gN g) && decide (1 ≤ ck g a (lb (L q 7)) (i + 1) s)) := by
            intro s hs
            rw [lb_or, i1 s hs, hhb s hs, hck s, ck_b 0]
            cases decide (s < gN g) <;> simp
          refine wv_le (by simp [wr_leq, wr_s1, wr_s2, wr_wide]) (ih (i + 1) (x1 ||| hh) (x2 ||| (x1 &&& hh)) (x3 ||| (x2 &&& hh)) (by omega) step1 (step 1 x2 x1 i2 i1) (step 2 x3 x2 i3 i2))
  refine wv_pad 11 ?_
  show wr_V l 2 mX3_thoseWhoSee 0 [some (.ref q), none, none, none, none, none, none, none, none, none, none, none] [] SH I L R 0 0 _
  refine wv_lconst (v := 0) dX3_thoseWhoSee_0 (by decide) ?_
  refine wv_lstore_k (i := 1) dX3_thoseWhoSee_1 rfl (by decide) ?_
  refine wv_lconst (v := 0) dX3_thoseWhoSee_2 (by decide) ?_
  refine wv_lstore_k (i := 3) dX3_thoseWhoSee_3 rfl (by decide) ?_
  refine wv_lconst (v := 0) dX3_thoseWhoSee_4 (by decide) ?_
  refine wv_lstore dX3_thoseWhoSee_5 (by decide) ?_
  refine wv_iconst (v := nI 0) dX3_thoseWhoSee_7 rfl ?_
  refine wv_istore dX3_thoseWhoSee_8 (by decide) ?_
  have z : ∀ kk s, s < 64 → lb 0 s = (decide (s < gN g) && decide (kk + 1 ≤ ck g a (lb (L q 7)) 0 s)) := by
    intro kk s _
    have e : ck g a (lb (L q 7)) 0 s = 0 := by unfold ck; simp [sL, sR, cn]
    rw [lb_0, e]
    simp
  exact wv_le (by simp [wr_leq, wr_s1, wr_s2, wr_wide]) (lp (2 * pm g a) 0 0 0 0 (by omega) (z 0) (z 1) (z 2))

