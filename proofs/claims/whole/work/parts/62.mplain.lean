/-! the model: plain laws -/
theorem bit1 (x : Int64) {s : Nat} (hs : s < 64) : ((x >>> ((nI s).toInt64 &&& 63)) &&& 1 = 1) ↔ lb x s = true := by
  have e : ∀ i, i < 64 → lb ((x >>> ((nI s).toInt64 &&& 63)) &&& 1) i = (lb x s && decide (i = 0)) := fun i hi => by
    rw [lb_and, lb_1]
    by_cases h0 : i = 0
    · subst h0; rw [lb_sar s hs x hi, if_pos (by omega)]; rfl
    · simp [h0]
  constructor
  · intro h
    have := e 0 (by omega)
    rw [h, lb_1] at this
    simpa using this.symm
  · intro h
    apply lb_ext
    intro i hi
    rw [e i hi, lb_1, h]
    simp
def pV (I : wr_TI) (r : Nat) (g : RG) (ps : Nat → Int32) : Prop := ∀ s, s < gN g → I 90 (40 * r + s) = ps s
theorem i40 (r i : Nat) : (40 : Int32) * nI r + nI i = nI (40 * r + i) := by rw [← nI_add]; congr 1; exact (Int32.ofNat_mul 40 r).symm
def frP (r : Nat) (I I' : wr_TI) : Prop := (∀ a, a ≠ 90 → a ≠ 91 → a ≠ 92 → I' a = I a) ∧ ∀ b, b < 40 * r ∨ 40 * r + 40 ≤ b → I' 90 b = I 90 b
theorem frP_rf {r : Nat} {I : wr_TI} : frP r I I := ⟨fun _ _ _ _ => rfl, fun _ _ => rfl⟩
theorem frP_g {r : Nat} {I I' : wr_TI} {g : RG} (h : frP r I I') (hg : mgV I g) : mgV I' g := mgV_fr hg (fun k _ => by rw [h.1 55 (by omega) (by omega) (by omega)]) (fun a ha => h.1 a (by omega) (by omega) (by omega))
theorem frP_o {r q : Nat} {I I' : wr_TI} {g : RG} {ps : Nat → Int32} (h : frP r I I') (hq : q ≠ r) (k40 : gN g ≤ 40) (hp : pV I q g ps) : pV I' q g ps := fun s hs => by rw [h.2 _ (by omega)]; exact hp s hs
set_option maxHeartbeats 4000000 in
set_option maxRecDepth 100000 in
theorem x_startP {l : Launch} {I : wr_TI} {L : wr_TL} {R : wr_TR} (hR : wr_RC R) (g : RG) (ok : gOK g) (hg : mgV I g) (r : Nat) (hr : r < 2) (u : Int64) : wr_P l 0 mX8_startPlain [.ref 55, .int (nI r), .long u] SH I L R (fun v s' I' L' R' => v = none ∧ s' = SH ∧ L' = L ∧ R' = R ∧ pV I' r g (ps0 g (lb u)) ∧ frP r I I') := by
  obtain ⟨k6, k40, -⟩ := id ok
  have hn : I 55 28 = nI (gN g) := hg.1
  have lp : ∀ (k i : Nat) (J : wr_TI), i + k = gN g → frP r I J → (∀ s, s < i → J 90 (40 * r + s) = ps0 g (lb u) s) → wr_V l 0 mX8_startPlain 3 [some (.ref 55), some (.int (nI r)), some (.long u), none, some (.int (nI i))] [] SH J L R 0 0 (fun v s' I' L' R' => v = none ∧ s' = SH ∧ L' = L ∧ R' = R ∧ pV I' r g (ps0 g (lb u)) ∧ frP r I I') := by
    intro k
    induction k with
    | zero =>
      intro i J hi hf hp
      obtain rfl : i = gN g := by omega
      refine wv_iload dX8_startPlain_3 rfl ?_
      refine wv_aload_n dX8_startPlain_5 rfl ?_
      refine wv_getI fX8_151 dX8_startPlain_6 rfl (by first | assumption | rfl) ?_
      refine wv_icmp_ge (tgt := 61) dX8_startPlain_9 (by decide) (fun h9 => ?_) (fun h9 => absurd (by rw [(frP_g hf hg).1]; exact Int32.le_refl _) h9)
      refine wv_ret (x := ()) rfl dX8_startPlain_61 ?_
      exact ⟨rfl, rfl, rfl, rfl, hp, hf⟩
    | succ k ih =>
      intro i J hi hf hp
      have eg := (frP_g hf hg).2.1 i (by omega)
      refine wv_iload dX8_startPlain_3 rfl ?_
      refine wv_aload_n dX8_startPlain_5 rfl ?_
      refine wv_getI fX8_151 dX8_startPlain_6 rfl (by first | assumption | rfl) ?_
      refine wv_icmp_ge (tgt := 61) dX8_startPlain_9 (by decide) (fun h9 => absurd h9 (by rw [(frP_g hf hg).1]; exact nI_ge (by omega) (by omega))) (fun h9 => ?_)
      refine wv_aload_n dX8_startPlain_12 rfl ?_
      refine wv_getR fX8_121 dX8_startPlain_13 rfl (by first | assumption | rfl) (by first | exact hR _ _ _ rfl | assumption) ?_
      refine wv_bipush (v := 40) dX8_startPlain_16 (by decide) ?_
      refine wv_iload_n dX8_startPlain_18 rfl ?_
      refine wv_imul dX8_startPlain_19 ?_
      refine wv_iload dX8_startPlain_20 rfl ?_
      refine wv_iadd dX8_startPlain_22 ?_
      refine wv_aload_n dX8_startPlain_23 rfl ?_
      refine wv_getR fX8_30 dX8_startPlain_24 rfl (by first | assumption | rfl) (by first | exact hR _ _ _ rfl | assumption) ?_
      refine wv_iload dX8_startPlain_27 rfl ?_
      refine wv_zaldN dX8_startPlain_29 (by first | assumption | rfl) (by omega) (by decide) ?_
      refine wv_if_eq (tgt := 38) dX8_startPlain_30 (by decide) (fun h30 => ?_) (fun h30 => ?_)
      · rw [eg, bI_0] at h30
        refine wv_lload_n dX8_startPlain_38 rfl ?_
        refine wv_iload dX8_startPlain_39 rfl ?_
        refine wv_lshr dX8_startPlain_41 ?_
        refine wv_lconst (v := 1) dX8_startPlain_42 (by decide) ?_
        refine wv_land dX8_startPlain_43 ?_
        refine wv_lconst (v := 1) dX8_startPlain_44 (by decide) ?_
        refine wv_lcmp dX8_startPlain_45 ?_
        refine wv_if_ne (tgt := 53) dX8_startPlain_46 (by decide) (fun h46 => ?_) (fun h46 => ?_)
        · rw [lg_cmp_eq, bit1 u (by omega)] at h46
          have e : ps0 g (lb u) i = 0 := by simp [ps0, h30, h46]
          refine wv_iconst (v := 0) dX8_startPlain_53 (by decide) ?_
          rw [i40]
          refine wv_iastN dX8_startPlain_54 (by first | assumption | rfl) (by omega) (by decide) ?_
          refine wv_iinc (v := nI (i + 1)) dX8_startPlain_55 rfl (nI_1 (i)) (by decide) ?_
          refine wv_goto (tgt := 3) dX8_startPlain_58 (by decide) ?_
          refine wv_le (by simp [wr_leq, wr_s1, wr_s2, wr_wide]) (ih (i + 1) _ (by omega) ⟨fun a b1 b2 b3 => ?_, fun b hb => ?_⟩ (fun s hs => ?_))
          · rw [wr_uI_ne b1]; exact hf.1 a b1 b2 b3
          · have : ¬ b = 40 * r + i := by omega
            simp only [wr_uI, this, and_false, if_false]
            exact hf.2 b hb
          · by_cases hsi : s = i
            · subst hsi; simp [wr_uI, e]
            · have : ¬ 40 * r + s = 40 * r + i := by omega
              simp only [wr_uI, this, and_false, if_false]
              exact hp s (by omega)
        · rw [lg_cmp_eq, bit1 u (by omega)] at h46
          have e : ps0 g (lb u) i = 1 := by simp [ps0, h30, h46]
          refine wv_iconst (v := 1) dX8_startPlain_49 (by decide) ?_
          refine wv_goto (tgt := 54) dX8_startPlain_50 (by decide) ?_
          rw [i40]
          refine wv_iastN dX8_startPlain_54 (by first | assumption | rfl) (by omega) (by decide) ?_
          refine wv_iinc (v := nI (i + 1)) dX8_startPlain_55 rfl (nI_1 (i)) (by decide) ?_
          refine wv_goto (tgt := 3) dX8_startPlain_58 (by decide) ?_
          refine wv_le (by simp [wr_leq, wr_s1, wr_s2, wr_wide]) (ih (i + 1) _ (by omega) ⟨fun a b1 b2 b3 => ?_, fun b hb => ?_⟩ (fun s hs => ?_))
          · rw [wr_uI_ne b1]; exact hf.1 a b1 b2 b3
          · have : ¬ b = 40 * r + i := by omega
            simp only [wr_uI, this, and_false, if_false]
            exact hf.2 b hb
          · by_cases hsi : s = i
            · subst hsi; simp [wr_uI, e]
            · have : ¬ 40 * r + s = 40 * r + i := by omega
              simp only [wr_uI, this, and_false, if_false]
              exact hp s (by omega)
      · rw [eg, bI_0] at h30
        have e : ps0 g (lb u) i = 40 := by simp [ps0, h30]
        refine wv_bipush (v := 40) dX8_startPlain_33 (by decide) ?_
        refine wv_goto (tgt := 54) dX8_startPlain_35 (by decide) ?_
        rw [i40]
        refine wv_iastN dX8_startPlain_54 (by first | assumption | rfl) (by omega) (by decide) ?_
        refine wv_iinc (v := nI (i + 1)) dX8_startPlain_55 rfl (nI_1 (i)) (by decide) ?_
        refine wv_goto (tgt := 3) dX8_startPlain_58 (by decide) ?_
        refine wv_le (by simp [wr_leq, wr_s1, wr_s2, wr_wide]) (ih (i + 1) _ (by omega) ⟨fun a b1 b2 b3 => ?_, fun b hb => ?_⟩ (fun s hs => ?_))
        · rw [wr_uI_ne b1]; exact hf.1 a b1 b2 b3
        · have : ¬ b = 40 * r + i := by omega
          simp only [wr_uI, this, and_false, if_false]
          exact hf.2 b hb
        · by_cases hsi : s = i
          · subst hsi; simp [wr_uI, e]
          · have : ¬ 40 * r + s = 40 * r + i := by omega
            simp only [wr_uI, this, and_false, if_false]
            exact hp s (by omega)
  refine wv_pad 1 ?_
  show wr_V l 0 mX8_startPlain 0 [some (.ref 55), some (.int (nI r)), some (.long u), none, none] [] SH I L R 0 0 _
  refine wv_iconst (v := nI 0) dX8_startPlain_0 rfl ?_
  refine wv_istore dX8_startPlain_1 (by decide) ?_
  exact wv_le (by simp [wr_leq, wr_s1, wr_s2, wr_wide]) (lp (gN g) 0 I (by omega) frP_rf (fun s hs => by omega))

set_option maxHeartbeats 4000000 in
set_option maxRecDepth 100000 in
theorem x_upsOf {l : Launch} {I : wr_TI} {L : wr_TL} {R : wr_TR} (hR : wr_RC R) (g : RG) (k40 : gN g ≤ 40) (hn : I 55 28 = nI (gN g)) (r : Nat) (hr : r < 2) (ps : Nat → Int32) (hp : pV I r g ps) : wr_E l 1 mX8_upsOf [.ref 55, .int (nI r)] SH I L R (some (.long (uL (gN g) ps))) I L R := by
  have lp : ∀ (k i : Nat), i + k = gN g → wr_V l 1 mX8_upsOf 5 [some (.ref 55), some (.int (nI r)), some (.long (uL i ps)), none, some (.int (nI i))] [] SH I L R 0 0 (wr_EQ (some (.long (uL (gN g) ps))) SH I L R) := by
    intro k
    induction k with
    | zero =>
      intro i hi
      obtain rfl : i = gN g := by omega
      refine wv_iload dX8_upsOf_5 rfl ?_
      refine wv_aload_n dX8_upsOf_7 rfl ?_
      refine wv_getI fX8_151 dX8_upsOf_8 rfl (by first | assumption | rfl) ?_
      refine wv_icmp_ge (tgt := 49) dX8_upsOf_11 (by decide) (fun h11 => ?_) (fun h11 => absurd (by rw [hn]; exact Int32.le_refl _) h11)
      refine wv_lload_n dX8_upsOf_49 rfl ?_
      refine wv_lret rfl dX8_upsOf_50 ?_
      exact ⟨rfl, rfl, rfl, rfl, rfl⟩
    | succ k ih =>
      intro i hi
      have e1 := hp i (by omega)
      refine wv_iload dX8_upsOf_5 rfl ?_
      refine wv_aload_n dX8_upsOf_7 rfl ?_
      refine wv_getI fX8_151 dX8_upsOf_8 rfl (by first | assumption | rfl) ?_
      refine wv_icmp_ge (tgt := 49) dX8_upsOf_11 (by decide) (fun h11 => absurd h11 (by rw [hn]; exact nI_ge (by omega) (by omega))) (fun h11 => ?_)
      refine wv_lload_n dX8_upsOf_14 rfl ?_
      refine wv_aload_n dX8_upsOf_15 rfl ?_
      refine wv_getR fX8_121 dX8_upsOf_16 rfl (by first | assumption | rfl) (by first | exact hR _ _ _ rfl | assumption) ?_
      refine wv_bipush (v := 40) dX8_upsOf_19 (by decide) ?_
      refine wv_iload_n dX8_upsOf_21 rfl ?_
      refine wv_imul dX8_upsOf_22 ?_
      refine wv_iload dX8_upsOf_23 rfl ?_
      refine wv_iadd dX8_upsOf_25 ?_
      rw [i40]
      refine wv_ialdN dX8_upsOf_26 (by first | assumption | rfl) (by omega) (by decide) ?_
      refine wv_s1e oX8_isUp kX8_393 dX8_upsOf_27 (by omega) (Nat.le_of_ble_eq_true rfl) (Nat.le_of_ble_eq_true rfl) (x_isUp _) ?_
      refine wv_if_eq (tgt := 40) dX8_upsOf_30 (by decide) (fun h30 => ?_) (fun h30 => ?_)
      · rw [if10, e1] at h30
        have e : uL i ps ||| 0 = uL (i + 1) ps := by unfold uL; simp [orb, h30]
        refine wv_lconst (v := 0) dX8_upsOf_40 (by decide) ?_
        refine wv_lor dX8_upsOf_41 ?_
        rw [e]
        refine wv_lstore_k (i := 2) dX8_upsOf_42 rfl (by decide) ?_
        refine wv_iinc (v := nI (i + 1)) dX8_upsOf_43 rfl (nI_1 (i)) (by decide) ?_
        refine wv_goto (tgt := 5) dX8_upsOf_46 (by decide) ?_
        exact wv_le (by simp [wr_leq, wr_s1, wr_s2, wr_wide]) (ih (i + 1) (by omega))
      · rw [if10, Decidable.not_not, e1] at h30
        have e : uL i ps ||| (1 <<< ((nI i).toInt64 &&& 63)) = uL (i + 1) ps := by unfold uL; simp [orb, h30]
        refine wv_lconst (v := 1) dX8_upsOf_33 (by decide) ?_
        refine wv_iload dX8_upsOf_34 rfl ?_
        refine wv_lshl dX8_upsOf_36 ?_
        refine wv_goto (tgt := 41) dX8_upsOf_37 (by decide) ?_
        refine wv_lor dX8_upsOf_41 ?_
        rw [e]
        refine wv_lstore_k (i := 2) dX8_upsOf_42 rfl (by decide) ?_
        refine wv_iinc (v := nI (i + 1)) dX8_upsOf_43 rfl (nI_1 (i)) (by decide) ?_
        refine wv_goto (tgt := 5) dX8_upsOf_46 (by decide) ?_
        exact wv_le (by simp [wr_leq, wr_s1, wr_s2, wr_wide]) (ih (i + 1) (by omega))
  refine wv_pad 3 ?_
  show wr_V l 1 mX8_upsOf 0 [some (.ref 55), some (.int (nI r)), none, none, none] [] SH I L R 0 0 _
  refine wv_lconst (v := 0) dX8_upsOf_0 (by decide) ?_
  refine wv_lstore_k (i := 2) dX8_upsOf_1 rfl (by decide) ?_
  refine wv_iconst (v := nI 0) dX8_upsOf_2 rfl ?_
  refine wv_istore dX8_upsOf_3 (by decide) ?_
  exact wv_le (by simp [wr_leq, wr_s1, wr_s2, wr_wide]; rfl) (lp (gN g) 0 (by omega))

set_option maxHeartbeats 4000000 in
set_option maxRecDepth 100000 in
theorem x_stepP {l : Launch} {I : wr_TI} {L : wr_TL} {R : wr_TR} (hR : wr_RC R) (g : RG) (ok : gOK g) (hg : mgV I g) (r : Nat) (hr : r < 2) (a : Nat) (ha : a < 324) (ps : Nat → Int32) (hp : pV I r g ps) : wr_P l 2 mX8_stepPlain [.ref 55, .int (nI r), .int (nI a)] SH I L R (fun v s' I' L' R' => v = none ∧ s' = SH ∧ L' = L ∧ R' = R ∧ pV I' r g (pst g a ps) ∧ frP r I I') := by
  obtain ⟨k6, k40, -⟩ := id ok
  have lc : ∀ (k i : Nat) (J : wr_TI), i + k = gN g → frP r I J → (∀ s, s < gN g → J 91 s = pst g a ps s) → (∀ s, s < i → J 90 (40 * r + s) = pst g a ps s) → wr_V l 2 mX8_stepPlain 200 [some (.ref 55), some (.int (nI r)), none, some (.int (nI (a % 4))), some (.int (nI (a / 4 % 3 + 1))), some (.int (nI (a / 12 % 3 + 1))), some (.int (nI (a / 36 % 3 + 1))), some (.int (nI (a / 108))), some (.int (nI i)), none] [] SH J L R 0 0 (fun v s' I' L' R' => v = none ∧ s' = SH ∧ L' = L ∧ R' = R ∧ pV I' r g (pst g a ps) ∧ frP r I I') := by
    intro k
    induction k with
    | zero =>
      intro i J hi hf h1 h2
      obtain rfl : i = gN g := by omega
      refine wv_iload dX8_stepPlain_200 rfl ?_
      refine wv_aload_n dX8_stepPlain_202 rfl ?_
      refine wv_getI fX8_151 dX8_stepPlain_203 rfl (by first | assumption | rfl) ?_
      refine wv_icmp_ge (tgt := 234) dX8_stepPlain_206 (by decide) (fun h206 => ?_) (fun h206 => absurd (by rw [(frP_g hf hg).1]; exact Int32.le_refl _) h206)
      refine wv_ret (x := ()) rfl dX8_stepPlain_234 ?_
      exact ⟨rfl, rfl, rfl, rfl, h2, hf⟩
    | succ k ih =>
      intro i J hi hf h1 h2
      have e1 := h1 i (by omega)
      refine wv_iload dX8_stepPlain_200 rfl ?_
      refine wv_aload_n dX8_stepPlain_202 rfl ?_
      refine wv_getI fX8_151 dX8_stepPlain_203 rfl (by first | assumption | rfl) ?_
      refine wv_icmp_ge (tgt := 234) dX8_stepPlain_206 (by decide) (fun h206 => absurd h206 (by rw [(frP_g hf hg).1]; exact nI_ge (by omega) (by omega))) (fun h206 => ?_)
      refine wv_aload_n dX8_stepPlain_209 rfl ?_
      refine wv_getR fX8_121 dX8_stepPlain_210 rfl (by first | assumption | rfl) (by first | exact hR _ _ _ rfl | assumption) ?_
      refine wv_bipush (v := 40) dX8_stepPlain_213 (by decide) ?_
      refine wv_iload_n dX8_stepPlain_215 rfl ?_
      refine wv_imul dX8_stepPlain_216 ?_
      refine wv_iload dX8_stepPlain_217 rfl ?_
      refine wv_iadd dX8_stepPlain_219 ?_
      rw [i40]
      refine wv_aload_n dX8_stepPlain_220 rfl ?_
      refine wv_getR fX8_124 dX8_stepPlain_221 rfl (by first | assumption | rfl) (by first | exact hR _ _ _ rfl | assumption) ?_
      refine wv_iload dX8_stepPlain_224 rfl ?_
      refine wv_ialdN dX8_stepPlain_226 (by first | assumption | rfl) (by omega) (by decide) ?_
      rw [e1]
      refine wv_iastN dX8_stepPlain_227 (by first | assumption | rfl) (by omega) (by decide) ?_
      refine wv_iinc (v := nI (i + 1)) dX8_stepPlain_228 rfl (nI_1 (i)) (by decide) ?_
      refine wv_goto (tgt := 200) dX8_stepPlain_231 (by decide) ?_
      refine wv_le (by simp [wr_leq, wr_s1, wr_s2, wr_wide]) (ih (i + 1) _ (by omega) ⟨fun a b1 b2 b3 => ?_, fun b hb => ?_⟩ (fun s hs => ?_) (fun s hs => ?_))
      · rw [wr_uI_ne b1]; exact hf.1 a b1 b2 b3
      · have : ¬ b = 40 * r + i := by omega
        simp only [wr_uI, this, and_false, if_false]
        exact hf.2 b hb
      · rw [wr_uI_ne (by omega)]; exact h1 s hs
      · by_cases hsi : s = i
        · subst hsi; simp [wr_uI]
        · have : ¬ 40 * r + s = 40 * r + i := by omega
          simp only [wr_uI, this, and_false, if_false]
          exact h2 s (by omega)
  have lb : ∀ (k i : Nat) (J : wr_TI), i + k = gN g → frP r I J → (∀ s, s < gN g → J 92 s = ps s) → (∀ s, s < i → J 91 s = pst g a ps s) → wr_V l 2 mX8_stepPlain 79 [some (.ref 55), some (.int (nI r)), none, some (.int (nI (a % 4))), some (.int (nI (a / 4 % 3 + 1))), some (.int (nI (a / 12 % 3 + 1))), some (.int (nI (a / 36 % 3 + 1))), some (.int (nI (a / 108))), some (.int (nI i)), none] [] SH J L R 0 0 (fun v s' I' L' R' => v = none ∧ s' = SH ∧ L' = L ∧ R' = R ∧ pV I' r g (pst g a ps) ∧ frP r I I') := by
    intro k
    induction k with
    | zero =>
      intro i J hi hf h1 h2
      obtain rfl : i = gN g := by omega
      refine wv_iload dX8_stepPlain_79 rfl ?_
      refine wv_aload_n dX8_stepPlain_81 rfl ?_
      refine wv_getI fX8_151 dX8_stepPlain_82 rfl (by first | assumption | rfl) ?_
      refine wv_icmp_ge (tgt := 197) dX8_stepPlain_85 (by decide) (fun h85 => ?_) (fun h85 => absurd (by rw [(frP_g hf hg).1]; exact Int32.le_refl _) h85)
      refine wv_iconst (v := nI 0) dX8_stepPlain_197 rfl ?_
      refine wv_istore dX8_stepPlain_198 (by decide) ?_
      exact wv_le (by simp [wr_leq, wr_s1, wr_s2, wr_wide]) (lc (gN g) 0 J (by omega) hf h2 (fun s hs => by omega))
    | succ k ih =>
      intro i J hi hf h1 h2
      have o1 := h1 i (by omega)
      have ed : J 60 i = bI (gD g i) := (frP_g hf hg).2.2.1 i (by omega)
      have ee : ∀ u, u < gN g → decide (J 92 u = 1) = e1 ps u := fun u hu => by rw [h1 u hu]; rfl
      have hL9 : sL (e1 ps) (gN g) i (pm g a) ≤ 9 := Nat.le_trans (cn_le _ _) (by unfold pm; omega)
      have hR9 : sR (e1 ps) (gN g) i (pm g a) ≤ 9 := Nat.le_trans (cn_le _ _) (by unfold pm; omega)
      have epL : nI (sL (fun u => decide (J 92 u = 1)) (gN g) i (min (a / 36 % 3 + 1) ((gN g - 1) / 2))) = nI (sL (e1 ps) (gN g) i (pm g a)) := by rw [sL_congr (by omega) ee]; rfl
      have epR : nI (sR (fun u => decide (J 92 u = 1)) (gN g) i (min (a / 36 % 3 + 1) ((gN g - 1) / 2))) = nI (sR (e1 ps) (gN g) i (pm g a)) := by rw [sR_congr (by omega) ee]; rfl
      have tl : wr_V l 2 mX8_stepPlain 140 [some (.ref 55), some (.int (nI r)), none, some (.int (nI (a % 4))), some (.int (nI (a / 4 % 3 + 1))), some (.int (nI (a / 12 % 3 + 1))), some (.int (nI (a / 36 % 3 + 1))), some (.int (nI (a / 108))), some (.int (nI i)), some (.int (nI (pcn g a ps i)))] [] SH J L R 0 0 (fun v s' I' L' R' => v = none ∧ s' = SH ∧ L' = L ∧ R' = R ∧ pV I' r g (pst g a ps) ∧ frP r I I') := by
        have hpc : pcn g a ps i ≤ 18 := by unfold pcn; split <;> split <;> omega
        refine wv_aload_n dX8_stepPlain_140 rfl ?_
        refine wv_getR fX8_124 dX8_stepPlain_141 rfl (by first | assumption | rfl) (by first | exact hR _ _ _ rfl | assumption) ?_
        refine wv_iload dX8_stepPlain_144 rfl ?_
        refine wv_aload_n dX8_stepPlain_146 rfl ?_
        refine wv_getR fX8_127 dX8_stepPlain_147 rfl (by first | assumption | rfl) (by first | exact hR _ _ _ rfl | assumption) ?_
        refine wv_iload dX8_stepPlain_150 rfl ?_
        refine wv_ialdN dX8_stepPlain_152 (by first | assumption | rfl) (by omega) (by decide) ?_
        refine wv_if_ne (tgt := 177) dX8_stepPlain_153 (by decide) (fun h153 => ?_) (fun h153 => ?_)
        · rw [o1] at h153
          have e : pst g a ps i = beh (nI (a / 4 % 3 + 1)) (nI (a % 4)) (ps i) := by unfold pst; rw [if_pos (by omega), if_neg (fun q => h153 q.1)]
          refine wv_aload_n dX8_stepPlain_177 rfl ?_
          refine wv_getR fX8_127 dX8_stepPlain_178 rfl (by first | assumption | rfl) (by first | exact hR _ _ _ rfl | assumption) ?_
          refine wv_iload dX8_stepPlain_181 rfl ?_
          refine wv_ialdN dX8_stepPlain_183 (by first | assumption | rfl) (by omega) (by decide) ?_
          refine wv_iload dX8_stepPlain_184 rfl ?_
          refine wv_iload_n dX8_stepPlain_186 rfl ?_
          rw [o1]
          refine wv_s3e oX8_behind kX8_424 dX8_stepPlain_187 (by omega) (Nat.le_of_ble_eq_true rfl) (Nat.le_of_ble_eq_true rfl) (x_behind _ _ _) ?_
          rw [← e]
          refine wv_iastN dX8_stepPlain_190 (by first | assumption | rfl) (by omega) (by decide) ?_
          refine wv_iinc (v := nI (i + 1)) dX8_stepPlain_191 rfl (nI_1 (i)) (by decide) ?_
          refine wv_goto (tgt := 79) dX8_stepPlain_194 (by decide) ?_
          refine wv_le (by simp [wr_leq, wr_s1, wr_s2, wr_wide]) (ih (i + 1) _ (by omega) ⟨fun a b1 b2 b3 => ?_, fun b hb => ?_⟩ (fun s hs => ?_) (fun s hs => ?_))
          · rw [wr_uI_ne b2]; exact hf.1 a b1 b2 b3
          · rw [wr_uI_ne (by omega)]; exact hf.2 b hb
          · rw [wr_uI_ne (by omega)]; exact h1 s hs
          · by_cases hsi : s = i
            · subst hsi; simp [wr_uI]
            · simp only [wr_uI, hsi, and_false, if_false]
              exact h2 s (by omega)
        · rw [o1] at h153
          refine wv_aload_n dX8_stepPlain_156 rfl ?_
          refine wv_getR fX8_27 dX8_stepPlain_157 rfl (by first | assumption | rfl) (by first | exact hR _ _ _ rfl | assumption) ?_
          refine wv_iload dX8_stepPlain_160 rfl ?_
          refine wv_zaldN dX8_stepPlain_162 (by first | assumption | rfl) (by omega) (by decide) ?_
          refine wv_if_ne (tgt := 177) dX8_stepPlain_163 (by decide) (fun h163 => ?_) (fun h163 => ?_)
          · rw [ed, bI_0] at h163
            have e : pst g a ps i = beh (nI (a / 4 % 3 + 1)) (nI (a % 4)) (ps i) := by unfold pst; rw [if_pos (by omega), if_neg (fun q => h163 q.2.1)]
            refine wv_aload_n dX8_stepPlain_177 rfl ?_
            refine wv_getR fX8_127 dX8_stepPlain_178 rfl (by first | assumption | rfl) (by first | exact hR _ _ _ rfl | assumption) ?_
            refine wv_iload dX8_stepPlain_181 rfl ?_
            refine wv_ialdN dX8_stepPlain_183 (by first | assumption | rfl) (by omega) (by decide) ?_
            refine wv_iload dX8_stepPlain_184 rfl ?_
            refine wv_iload_n dX8_stepPlain_186 rfl ?_
            rw [o1]
            refine wv_s3e oX8_behind kX8_424 dX8_stepPlain_187 (by omega) (Nat.le_of_ble_eq_true rfl) (Nat.le_of_ble_eq_true rfl) (x_behind _ _ _) ?_
            rw [← e]
            refine wv_iastN dX8_stepPlain_190 (by first | assumption | rfl) (by omega) (by decide) ?_
            refine wv_iinc (v := nI (i + 1)) dX8_stepPlain_191 rfl (nI_1 (i)) (by decide) ?_
            refine wv_goto (tgt := 79) dX8_stepPlain_194 (by decide) ?_
            refine wv_le (by simp [wr_leq, wr_s1, wr_s2, wr_wide]) (ih (i + 1) _ (by omega) ⟨fun a b1 b2 b3 => ?_, fun b hb => ?_⟩ (fun s hs => ?_) (fun s hs => ?_))
            · rw [wr_uI_ne b2]; exact hf.1 a b1 b2 b3
            · rw [wr_uI_ne (by omega)]; exact hf.2 b hb
            · rw [wr_uI_ne (by omega)]; exact h1 s hs
            · by_cases hsi : s = i
              · subst hsi; simp [wr_uI]
              · simp only [wr_uI, hsi, and_false, if_false]
                exact h2 s (by omega)
          · rw [ed, bI_0] at h163
            refine wv_iload dX8_stepPlain_166 rfl ?_
            refine wv_iload dX8_stepPlain_168 rfl ?_
            refine wv_icmp_lt (tgt := 177) dX8_stepPlain_170 (by decide) (fun h170 => ?_) (fun h170 => ?_)
            · rw [nI_ltI (by omega) (by omega)] at h170
              have e : pst g a ps i = beh (nI (a / 4 % 3 + 1)) (nI (a % 4)) (ps i) := by unfold pst; rw [if_pos (by omega), if_neg (fun q => by have := q.2.2; omega)]
              refine wv_aload_n dX8_stepPlain_177 rfl ?_
              refine wv_getR fX8_127 dX8_stepPlain_178 rfl (by first | assumption | rfl) (by first | exact hR _ _ _ rfl | assumption) ?_
              refine wv_iload dX8_stepPlain_181 rfl ?_
              refine wv_ialdN dX8_stepPlain_183 (by first | assumption | rfl) (by omega) (by decide) ?_
              refine wv_iload dX8_stepPlain_184 rfl ?_
              refine wv_iload_n dX8_stepPlain_186 rfl ?_
              rw [o1]
              refine wv_s3e oX8_behind kX8_424 dX8_stepPlain_187 (by omega) (Nat.le_of_ble_eq_true rfl) (Nat.le_of_ble_eq_true rfl) (x_behind _ _ _) ?_
              rw [← e]
              refine wv_iastN dX8_stepPlain_190 (by first | assumption | rfl) (by omega) (by decide) ?_
              refine wv_iinc (v := nI (i + 1)) dX8_stepPlain_191 rfl (nI_1 (i)) (by decide) ?_
              refine wv_goto (tgt := 79) dX8_stepPlain_194 (by decide) ?_
              refine wv_le (by simp [wr_leq, wr_s1, wr_s2, wr_wide]) (ih (i + 1) _ (by omega) ⟨fun a b1 b2 b3 => ?_, fun b hb => ?_⟩ (fun s hs => ?_) (fun s hs => ?_))
              · rw [wr_uI_ne b2]; exact hf.1 a b1 b2 b3
              · rw [wr_uI_ne (by omega)]; exact hf.2 b hb
              · rw [wr_uI_ne (by omega)]; exact h1 s hs
              · by_cases hsi : s = i
                · subst hsi; simp [wr_uI]
                · simp only [wr_uI, hsi, and_false, if_false]
                  exact h2 s (by omega)
            · rw [nI_ltI (by omega) (by omega)] at h170
              have e : pst g a ps i = 1 := by unfold pst; rw [if_pos (by omega), if_pos ⟨h153, h163, by omega⟩]
              refine wv_iconst (v := 1) dX8_stepPlain_173 (by decide) ?_
              refine wv_goto (tgt := 190) dX8_stepPlain_174 (by decide) ?_
              rw [← e]
              refine wv_iastN dX8_stepPlain_190 (by first | assumption | rfl) (by omega) (by decide) ?_
              refine wv_iinc (v := nI (i + 1)) dX8_stepPlain_191 rfl (nI_1 (i)) (by decide) ?_
              refine wv_goto (tgt := 79) dX8_stepPlain_194 (by decide) ?_
              refine wv_le (by simp [wr_leq, wr_s1, wr_s2, wr_wide]) (ih (i + 1) _ (by omega) ⟨fun a b1 b2 b3 => ?_, fun b hb => ?_⟩ (fun s hs => ?_) (fun s hs => ?_))
              · rw [wr_uI_ne b2]; exact hf.1 a b1 b2 b3
              · rw [wr_uI_ne (by omega)]; exact hf.2 b hb
              · rw [wr_uI_ne (by omega)]; exact h1 s hs
              · by_cases hsi : s = i
                · subst hsi; simp [wr_uI]
                · simp only [wr_uI, hsi, and_false, if_false]
                  exact h2 s (by omega)
      refine wv_iload dX8_stepPlain_79 rfl ?_
      refine wv_aload_n dX8_stepPlain_81 rfl ?_
      refine wv_getI fX8_151 dX8_stepPlain_82 rfl (by first | assumption | rfl) ?_
      refine wv_icmp_ge (tgt := 197) dX8_stepPlain_85 (by decide) (fun h85 => absurd h85 (by rw [(frP_g hf hg).1]; exact nI_ge (by omega) (by omega))) (fun h85 => ?_)
      refine wv_iload dX8_stepPlain_88 rfl ?_
      refine wv_iconst (v := 1) dX8_stepPlain_90 (by decide) ?_
      refine wv_icmp_ne (tgt := 98) dX8_stepPlain_91 (by decide) (fun h91 => ?_) (fun h91 => ?_)
      · have hc1 : ¬ a / 108 = 1 := fun q => h91 (by rw [q]; rfl)
        have en : sL (e1 ps) (gN g) i (pm g a) = (if a / 108 = 1 then 0 else sL (e1 ps) (gN g) i (pm g a)) := by rw [if_neg hc1]
        refine wv_aload_n dX8_stepPlain_98 rfl ?_
        refine wv_aload_n dX8_stepPlain_99 rfl ?_
        refine wv_getR fX8_127 dX8_stepPlain_100 rfl (by first | assumption | rfl) (by first | exact hR _ _ _ rfl | assumption) ?_
        refine wv_iload dX8_stepPlain_103 rfl ?_
        refine wv_iconst (v := (-1)) dX8_stepPlain_105 (by decide) ?_
        refine wv_iload dX8_stepPlain_106 rfl ?_
        refine wv_v4e oX8_seen kX8_399 dX8_stepPlain_108 (by omega) (by first | assumption | rfl) ⟨rfl, by decide⟩ (Nat.le_of_ble_eq_true rfl) (Nat.le_of_ble_eq_true rfl) (x_seenL 92 (gN g) i (a / 36 % 3 + 1) rfl (frP_g hf hg).1 k6 k40 (by omega) (by omega)) ?_
        first | rw [epL, en] | rw [en]
        refine wv_istore dX8_stepPlain_111 (by decide) ?_
        refine wv_iload dX8_stepPlain_113 rfl ?_
        refine wv_iload dX8_stepPlain_115 rfl ?_
        refine wv_if_ne (tgt := 124) dX8_stepPlain_117 (by decide) (fun h117 => ?_) (fun h117 => ?_)
        · have hc0 : ¬ a / 108 = 0 := fun q => h117 (by rw [q]; rfl)
          have em : nI (if a / 108 = 1 then 0 else sL (e1 ps) (gN g) i (pm g a)) + nI (sR (e1 ps) (gN g) i (pm g a)) = nI (pcn g a ps i) := by unfold pcn; rw [if_neg hc0]; exact nI_add _ _
          refine wv_aload_n dX8_stepPlain_124 rfl ?_
          refine wv_aload_n dX8_stepPlain_125 rfl ?_
          refine wv_getR fX8_127 dX8_stepPlain_126 rfl (by first | assumption | rfl) (by first | exact hR _ _ _ rfl | assumption) ?_
          refine wv_iload dX8_stepPlain_129 rfl ?_
          refine wv_iconst (v := 1) dX8_stepPlain_131 (by decide) ?_
          refine wv_iload dX8_stepPlain_132 rfl ?_
          refine wv_v4e oX8_seen kX8_399 dX8_stepPlain_134 (by omega) (by first | assumption | rfl) ⟨rfl, by decide⟩ (Nat.le_of_ble_eq_true rfl) (Nat.le_of_ble_eq_true rfl) (x_seenR 92 (gN g) i (a / 36 % 3 + 1) rfl (frP_g hf hg).1 k6 k40 (by omega) (by omega)) ?_
          try rw [epR]
          refine wv_iadd dX8_stepPlain_137 ?_
          rw [em]
          refine wv_istore dX8_stepPlain_138 (by decide) ?_
          exact wv_le (by simp [wr_leq, wr_s1, wr_s2, wr_wide]) tl
        · have hc0 : a / 108 = 0 := (nI_eq (b := 0) (by omega) (by omega)).mp h117
          have em : nI (if a / 108 = 1 then 0 else sL (e1 ps) (gN g) i (pm g a)) + 0 = nI (pcn g a ps i) := by unfold pcn; rw [if_pos hc0, Int32.add_zero, Nat.add_zero]
          refine wv_iconst (v := 0) dX8_stepPlain_120 (by decide) ?_
          refine wv_goto (tgt := 137) dX8_stepPlain_121 (by decide) ?_
          try rw [epR]
          refine wv_iadd dX8_stepPlain_137 ?_
          rw [em]
          refine wv_istore dX8_stepPlain_138 (by decide) ?_
          exact wv_le (by simp [wr_leq, wr_s1, wr_s2, wr_wide]) tl
      · have hc1 : a / 108 = 1 := (nI_eq (b := 1) (by omega) (by omega)).mp h91
        have en : (0 : Int32) = nI (if a / 108 = 1 then 0 else sL (e1 ps) (gN g) i (pm g a)) := by rw [if_pos hc1]; rfl
        refine wv_iconst (v := 0) dX8_stepPlain_94 (by decide) ?_
        refine wv_goto (tgt := 111) dX8_stepPlain_95 (by decide) ?_
        first | rw [epL, en] | rw [en]
        refine wv_istore dX8_stepPlain_111 (by decide) ?_
        refine wv_iload dX8_stepPlain_113 rfl ?_
        refine wv_iload dX8_stepPlain_115 rfl ?_
        refine wv_if_ne (tgt := 124) dX8_stepPlain_117 (by decide) (fun h117 => ?_) (fun h117 => ?_)
        · have hc0 : ¬ a / 108 = 0 := fun q => h117 (by rw [q]; rfl)
          have em : nI (if a / 108 = 1 then 0 else sL (e1 ps) (gN g) i (pm g a)) + nI (sR (e1 ps) (gN g) i (pm g a)) = nI (pcn g a ps i) := by unfold pcn; rw [if_neg hc0]; exact nI_add _ _
          refine wv_aload_n dX8_stepPlain_124 rfl ?_
          refine wv_aload_n dX8_stepPlain_125 rfl ?_
          refine wv_getR fX8_127 dX8_stepPlain_126 rfl (by first | assumption | rfl) (by first | exact hR _ _ _ rfl | assumption) ?_
          refine wv_iload dX8_stepPlain_129 rfl ?_
          refine wv_iconst (v := 1) dX8_stepPlain_131 (by decide) ?_
          refine wv_iload dX8_stepPlain_132 rfl ?_
          refine wv_v4e oX8_seen kX8_399 dX8_stepPlain_134 (by omega) (by first | assumption | rfl) ⟨rfl, by decide⟩ (Nat.le_of_ble_eq_true rfl) (Nat.le_of_ble_eq_true rfl) (x_seenR 92 (gN g) i (a / 36 % 3 + 1) rfl (frP_g hf hg).1 k6 k40 (by omega) (by omega)) ?_
          try rw [epR]
          refine wv_iadd dX8_stepPlain_137 ?_
          rw [em]
          refine wv_istore dX8_stepPlain_138 (by decide) ?_
          exact wv_le (by simp [wr_leq, wr_s1, wr_s2, wr_wide]) tl
        · have hc0 : a / 108 = 0 := (nI_eq (b := 0) (by omega) (by omega)).mp h117
          have em : nI (if a / 108 = 1 then 0 else sL (e1 ps) (gN g) i (pm g a)) + 0 = nI (pcn g a ps i) := by unfold pcn; rw [if_pos hc0, Int32.add_zero, Nat.add_zero]
          refine wv_iconst (v := 0) dX8_stepPlain_120 (by decide) ?_
          refine wv_goto (tgt := 137) dX8_stepPlain_121 (by decide) ?_
          try rw [epR]
          refine wv_iadd dX8_stepPlain_137 ?_
          rw [em]
          refine wv_istore dX8_stepPlain_138 (by decide) ?_
          exact wv_le (by simp [wr_leq, wr_s1, wr_s2, wr_wide]) tl
  have la : ∀ (k i : Nat) (J : wr_TI), i + k = gN g → frP r I J → (∀ s, s < gN g → J 90 (40 * r + s) = ps s) → (∀ s, s < i → J 92 s = ps s) → wr_V l 2 mX8_stepPlain 42 [some (.ref 55), some (.int (nI r)), none, some (.int (nI (a % 4))), some (.int (nI (a / 4 % 3 + 1))), some (.int (nI (a / 12 % 3 + 1))), some (.int (nI (a / 36 % 3 + 1))), some (.int (nI (a / 108))), some (.int (nI i)), none] [] SH J L R 0 0 (fun v s' I' L' R' => v = none ∧ s' = SH ∧ L' = L ∧ R' = R ∧ pV I' r g (pst g a ps) ∧ frP r I I') := by
    intro k
    induction k with
    | zero =>
      intro i J hi hf h1 h2
      obtain rfl : i = gN g := by omega
      refine wv_iload dX8_stepPlain_42 rfl ?_
      refine wv_aload_n dX8_stepPlain_44 rfl ?_
      refine wv_getI fX8_151 dX8_stepPlain_45 rfl (by first | assumption | rfl) ?_
      refine wv_icmp_ge (tgt := 76) dX8_stepPlain_48 (by decide) (fun h48 => ?_) (fun h48 => absurd (by rw [(frP_g hf hg).1]; exact Int32.le_refl _) h48)
      refine wv_iconst (v := nI 0) dX8_stepPlain_76 rfl ?_
      refine wv_istore dX8_stepPlain_77 (by decide) ?_
      exact wv_le (by simp [wr_leq, wr_s1, wr_s2, wr_wide]) (lb (gN g) 0 J (by omega) hf h2 (fun s hs => by omega))
    | succ k ih =>
      intro i J hi hf h1 h2
      have o1 := h1 i (by omega)
      refine wv_iload dX8_stepPlain_42 rfl ?_
      refine wv_aload_n dX8_stepPlain_44 rfl ?_
      refine wv_getI fX8_151 dX8_stepPlain_45 rfl (by first | assumption | rfl) ?_
      refine wv_icmp_ge (tgt := 76) dX8_stepPlain_48 (by decide) (fun h48 => absurd h48 (by rw [(frP_g hf hg).1]; exact nI_ge (by omega) (by omega))) (fun h48 => ?_)
      refine wv_aload_n dX8_stepPlain_51 rfl ?_
      refine wv_getR fX8_127 dX8_stepPlain_52 rfl (by first | assumption | rfl) (by first | exact hR _ _ _ rfl | assumption) ?_
      refine wv_iload dX8_stepPlain_55 rfl ?_
      refine wv_aload_n dX8_stepPlain_57 rfl ?_
      refine wv_getR fX8_121 dX8_stepPlain_58 rfl (by first | assumption | rfl) (by first | exact hR _ _ _ rfl | assumption) ?_
      refine wv_bipush (v := 40) dX8_stepPlain_61 (by decide) ?_
      refine wv_iload_n dX8_stepPlain_63 rfl ?_
      refine wv_imul dX8_stepPlain_64 ?_
      refine wv_iload dX8_stepPlain_65 rfl ?_
      refine wv_iadd dX8_stepPlain_67 ?_
      rw [i40]
      refine wv_ialdN dX8_stepPlain_68 (by first | assumption | rfl) (by omega) (by decide) ?_
      rw [o1]
      refine wv_iastN dX8_stepPlain_69 (by first | assumption | rfl) (by omega) (by decide) ?_
      refine wv_iinc (v := nI (i + 1)) dX8_stepPlain_70 rfl (nI_1 (i)) (by decide) ?_
      refine wv_goto (tgt := 42) dX8_stepPlain_73 (by decide) ?_
      refine wv_le (by simp [wr_leq, wr_s1, wr_s2, wr_wide]) (ih (i + 1) _ (by omega) ⟨fun a b1 b2 b3 => ?_, fun b hb => ?_⟩ (fun s hs => ?_) (fun s hs => ?_))
      · rw [wr_uI_ne b3]; exact hf.1 a b1 b2 b3
      · rw [wr_uI_ne (by omega)]; exact hf.2 b hb
      · rw [wr_uI_ne (by omega)]; exact h1 s hs
      · by_cases hsi : s = i
        · subst hsi; simp [wr_uI]
        · simp only [wr_uI, hsi, and_false, if_false]
          exact h2 s (by omega)
  refine wv_pad 7 ?_
  show wr_V l 2 mX8_stepPlain 0 [some (.ref 55), some (.int (nI r)), some (.int (nI a)), none, none, none, none, none, none, none] [] SH I L R 0 0 _
  refine wv_iload_n dX8_stepPlain_0 rfl ?_
  refine wv_iconst (v := nI 4) dX8_stepPlain_1 rfl ?_
  refine wv_irem dX8_stepPlain_2 (by decide) ?_
  rw [rem_of rfl (by omega) (by omega) (by omega)]
  refine wv_istore_k (i := 3) dX8_stepPlain_3 rfl (by decide) ?_
  refine wv_iload_n dX8_stepPlain_4 rfl ?_
  refine wv_iconst (v := nI 4) dX8_stepPlain_5 rfl ?_
  refine wv_idiv dX8_stepPlain_6 (by decide) ?_
  rw [pk_div (by omega) (by omega) (by omega)]
  refine wv_iconst (v := nI 3) dX8_stepPlain_7 rfl ?_
  refine wv_irem dX8_stepPlain_8 (by decide) ?_
  rw [rem_of rfl (by omega) (by omega) (by omega)]
  refine wv_iconst (v := 1) dX8_stepPlain_9 (by decide) ?_
  refine wv_iadd dX8_stepPlain_10 ?_
  rw [nI_1]
  refine wv_istore dX8_stepPlain_11 (by decide) ?_
  refine wv_iload_n dX8_stepPlain_13 rfl ?_
  refine wv_bipush (v := nI 12) dX8_stepPlain_14 rfl ?_
  refine wv_idiv dX8_stepPlain_16 (by decide) ?_
  rw [pk_div (by omega) (by omega) (by omega)]
  refine wv_iconst (v := nI 3) dX8_stepPlain_17 rfl ?_
  refine wv_irem dX8_stepPlain_18 (by decide) ?_
  rw [rem_of rfl (by omega) (by omega) (by omega)]
  refine wv_iconst (v := 1) dX8_stepPlain_19 (by decide) ?_
  refine wv_iadd dX8_stepPlain_20 ?_
  rw [nI_1]
  refine wv_istore dX8_stepPlain_21 (by decide) ?_
  refine wv_iload_n dX8_stepPlain_23 rfl ?_
  refine wv_bipush (v := nI 36) dX8_stepPlain_24 rfl ?_
  refine wv_idiv dX8_stepPlain_26 (by decide) ?_
  rw [pk_div (by omega) (by omega) (by omega)]
  refine wv_iconst (v := nI 3) dX8_stepPlain_27 rfl ?_
  refine wv_irem dX8_stepPlain_28 (by decide) ?_
  rw [rem_of rfl (by omega) (by omega) (by omega)]
  refine wv_iconst (v := 1) dX8_stepPlain_29 (by decide) ?_
  refine wv_iadd dX8_stepPlain_30 ?_
  rw [nI_1]
  refine wv_istore dX8_stepPlain_31 (by decide) ?_
  refine wv_iload_n dX8_stepPlain_33 rfl ?_
  refine wv_bipush (v := nI 108) dX8_stepPlain_34 rfl ?_
  refine wv_idiv dX8_stepPlain_36 (by decide) ?_
  rw [pk_div (by omega) (by omega) (by omega)]
  refine wv_istore dX8_stepPlain_37 (by decide) ?_
  refine wv_iconst (v := nI 0) dX8_stepPlain_39 rfl ?_
  refine wv_istore dX8_stepPlain_40 (by decide) ?_
  exact wv_le (by simp [wr_leq, wr_s1, wr_s2, wr_wide]) (la (gN g) 0 I (by omega) frP_rf hp (fun s hs => by omega))

