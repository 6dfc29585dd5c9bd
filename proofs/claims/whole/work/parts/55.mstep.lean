/-! the model: a tenth -/
theorem beh_ne1 (up rest v : Int32) : ¬ beh up rest v = 1 := by
  unfold beh
  by_cases h : isU v = true
  · rw [if_pos h]
    simp only [isU, decide_eq_true_eq] at h
    grind
  · rw [if_neg h]
    simp only [isU, decide_eq_true_eq] at h
    grind
def rsA (g : RG) (dr : Nat → Bool) (S : SS) : Nat → Bool := fun s => decide (s < gN g) && wnt g dr S s
def rz (A : Nat → Bool) (w sh : Int32) : Nat → Bool := fun s => A s && !(decide (0 < sh) && decide (d10 (drw (dw A w s)) < sh))
def wz (A : Nat → Bool) (w sh : Int32) (k : Nat) : Int32 := if 0 < sh then dw A w k else w
def nx (g : RG) (P : Nat → Bool) (S : SS) (b : Nat) : Int32 := if P b = true then 1 else beh (gUp g) (gRe g) (S.1 b)
theorem nx_1 {g : RG} {P : Nat → Bool} {S : SS} {b : Nat} : nx g P S b = 1 ↔ P b = true := by
  unfold nx
  by_cases h : P b = true
  · simp [h]
  · rw [if_neg h]
    exact ⟨fun q => absurd q (beh_ne1 _ _ _), fun q => absurd q h⟩
theorem rz_E {g : RG} {F : FS} (h0 : 0 ≤ gSh g) : rz (rsA g (gD g) F.1) F.2.2 (gSh g) = rsE g F := by
  have eA : rsA g (gD g) F.1 = rsP g F.1 := rfl
  rw [eA]
  funext s
  unfold rz rsE
  by_cases h : gSh g = 0
  · rw [if_pos h, h]
    simp
  · rw [if_neg h]
    have : 0 < gSh g := by grind
    simp [this]
theorem wz_W {g : RG} {F : FS} (h0 : 0 ≤ gSh g) : wz (rsA g (gD g) F.1) F.2.2 (gSh g) (gN g) = rsW g F := by
  unfold wz rsW
  by_cases h : gSh g = 0
  · rw [if_pos h, h]
    simp
  · have : 0 < gSh g := by grind
    rw [if_neg h, if_pos this]
    rfl
theorem rz_0 {A : Nat → Bool} {w : Int32} : rz A w 0 = A := by
  funext s
  simp [rz]
set_option maxHeartbeats 4000000 in
set_option maxRecDepth 100000 in
theorem x_draw {l : Launch} {I : wr_TI} {L : wr_TL} {R : wr_TR} : wr_E l 0 mX8_draw [.ref 55, .int 10] SH I L R (some (.int (d10 (drw (I 55 59))))) (wr_uI I 55 59 (drw (I 55 59))) L R := by
  have hu : ∀ v, wr_uI I 55 59 v 55 59 = v := fun v => by simp [wr_uI]
  refine wv_pad 0 ?_
  show wr_V l 0 mX8_draw 0 [some (.ref 55), some (.int 10)] [] SH I L R 0 0 _
  refine wv_aload_n dX8_draw_0 rfl ?_
  refine wv_aload_n dX8_draw_1 rfl ?_
  refine wv_getI fX8_96 dX8_draw_2 rfl (by first | assumption | rfl) ?_
  refine wv_ldc_w nX8_413 dX8_draw_5 ?_
  refine wv_imul dX8_draw_8 ?_
  refine wv_sipush (v := 12345) dX8_draw_9 (by decide) ?_
  refine wv_iadd dX8_draw_12 ?_
  refine wv_putI fX8_96 dX8_draw_13 rfl rfl rfl rfl (by first | assumption | rfl) ?_
  refine wv_aload_n dX8_draw_16 rfl ?_
  refine wv_getI fX8_96 dX8_draw_17 rfl (by first | assumption | rfl) ?_
  rw [hu]
  refine wv_bipush (v := 16) dX8_draw_20 (by decide) ?_
  refine wv_iushr dX8_draw_22 ?_
  refine wv_iload_n dX8_draw_23 rfl ?_
  refine wv_irem dX8_draw_24 (by decide) ?_
  refine wv_iret rfl dX8_draw_25 ?_
  exact ⟨rfl, rfl, rfl, rfl, rfl⟩

set_option maxHeartbeats 4000000 in
set_option maxRecDepth 100000 in
theorem x_step {l : Launch} {I : wr_TI} {L : wr_TL} {R : wr_TR} (hR : wr_RC R) (g : RG) (S : SS) (ok : gOK g) (hg : mgV I g) (hS : mcV I S) (dr : Nat → Bool) (hdr : ∀ s, s < gN g → dr s = (decide (I 60 s ≠ 0) || decide (I 82 s ≠ 0))) (dn sh : Int32) (hdn : (dn = 0 ∧ sh = 0) ∨ (dn = 1 ∧ sh = gSh g)) : wr_P l 4 mX8_step [.ref 55, .int dn] SH I L R (fun v s' I' L' R' => v = some (.int (nI (cn (rz (rsA g dr S) (I 55 59) sh) (gN g)))) ∧ s' = SH ∧ L' = L ∧ R' = R ∧ mcV I' (stp g (rz (rsA g dr S) (I 55 59) sh) S) ∧ (∀ q, q < 3 → I' 80 q = I 80 q + nI (wyN g (f1 S) (rz (rsA g dr S) (I 55 59) sh) q (gN g))) ∧ I' 55 59 = wz (rsA g dr S) (I 55 59) sh (gN g) ∧ (∀ a, a ≠ 55 → a ≠ 74 → a ≠ 75 → a ≠ 76 → a ≠ 77 → a ≠ 80 → I' a = I a) ∧ ∀ k, k ≠ 57 → k ≠ 59 → I' 55 k = I 55 k) := by
  obtain ⟨k6, k40, -, -, kup, kre, kse, ksh, -⟩ := id ok
  generalize hP : (rz (rsA g dr S) (I 55 59) sh) = P
  have hn : I 55 28 = nI (gN g) := hg.1
  have hup : upn g S = cn (fun s => isU (I 75 s)) (gN g) := cn_congr fun s hs => by rw [hS.1 s (by omega)]
  have hPA : ∀ s, s < gN g → P s = (wnt g dr S s && !(decide (0 < sh) && decide (d10 (drw (dw (rsA g dr S) (I 55 59) s)) < sh))) := fun s hs => by rw [← hP]; simp [rz, rsA, hs]
  have hAs : ∀ s, s < gN g → rsA g dr S s = wnt g dr S s := fun s hs => by simp [rsA, hs]
  -- the second loop: what was worked out is taken over
  have lp2 : ∀ (K : wr_TI), K 55 28 = nI (gN g) → (∀ b, b < gN g → K 77 b = nx g P S b) → (∀ b, b < 40 → K 75 b = S.1 b) → (∀ b, b < 40 → K 76 b = S.2.1 b) → K 55 57 = S.2.2.1 → K 55 58 = S.2.2.2 → (∀ q, q < 3 → K 80 q = I 80 q + nI (wyN g (f1 S) P q (gN g))) → K 55 59 = wz (rsA g dr S) (I 55 59) sh (gN g) → (∀ a, a ≠ 55 → a ≠ 74 → a ≠ 77 → a ≠ 80 → K a = I a) → (∀ k, k ≠ 59 → K 55 k = I 55 k) → ∀ (k i : Nat) (J : wr_TI), i + k = gN g → (∀ a, a ≠ 75 → a ≠ 76 → J a = K a) → (∀ b, J 75 b = if b < i then nx g P S b else K 75 b) → (∀ b, J 76 b = if b < i ∧ P b = true then K 76 b + 1 else K 76 b) → wr_V l 4 mX8_step 202 [some (.ref 55), some (.int dn), some (.int (nI (upn g S))), some (.int (nI (cn P (gN g)))), some (.int (nI i)), none, none, none] [] SH J L R 0 0 (fun v s' I' L' R' => v = some (.int (nI (cn P (gN g)))) ∧ s' = SH ∧ L' = L ∧ R' = R ∧ mcV I' (stp g P S) ∧ (∀ q, q < 3 → I' 80 q = I 80 q + nI (wyN g (f1 S) P q (gN g))) ∧ I' 55 59 = wz (rsA g dr S) (I 55 59) sh (gN g) ∧ (∀ a, a ≠ 55 → a ≠ 74 → a ≠ 75 → a ≠ 76 → a ≠ 77 → a ≠ 80 → I' a = I a) ∧ ∀ k, k ≠ 57 → k ≠ 59 → I' 55 k = I 55 k) := by
    intro K hK1 hK2 hK3 hK4 hK5 hK6 hK7 hK8 hK9 hK10 k
    induction k with
    | zero =>
      intro i J hi hJ1 hJ2 hJ3
      obtain rfl : i = gN g := by omega
      refine wv_iload dX8_step_202 rfl ?_
      refine wv_aload_n dX8_step_204 rfl ?_
      refine wv_getI fX8_151 dX8_step_205 rfl (by first | assumption | rfl) ?_
      refine wv_icmp_ge (tgt := 257) dX8_step_208 (by decide) (fun h208 => ?_) (fun h208 => absurd (by rw [hJ1 55 (by omega) (by omega), hK1]; exact Int32.le_refl _) h208)
      refine wv_aload_n dX8_step_257 rfl ?_
      refine wv_dup dX8_step_258 rfl ?_
      refine wv_getI fX8_381 dX8_step_259 rfl (by first | assumption | rfl) ?_
      refine wv_iconst (v := 1) dX8_step_262 (by decide) ?_
      refine wv_iadd dX8_step_263 ?_
      refine wv_putI fX8_381 dX8_step_264 rfl rfl rfl rfl (by first | assumption | rfl) ?_
      refine wv_iload_n dX8_step_267 rfl ?_
      refine wv_iret rfl dX8_step_268 ?_
      refine ⟨rfl, rfl, rfl, rfl, ⟨fun s hs => ?_, fun s hs => ?_, ?_, ?_⟩, fun q hq => ?_, ?_, fun a b1 b2 b3 b4 b5 b6 => ?_, fun k b1 b2 => ?_⟩
      · rw [wr_uI_ne (by omega), hJ2, hK3 s hs]
        simp only [stp, nx]
      · rw [wr_uI_ne (by omega), hJ3, hK4 s hs]
        simp only [stp]
      · have : J 55 57 = S.2.2.1 := by rw [hJ1 55 (by omega) (by omega)]; exact hK5
        simp [wr_uI, stp, this]
      · have : J 55 58 = S.2.2.2 := by rw [hJ1 55 (by omega) (by omega)]; exact hK6
        simp [wr_uI, stp, this]
      · rw [wr_uI_ne (by omega), hJ1 80 (by omega) (by omega)]; exact hK7 q hq
      · have : J 55 59 = K 55 59 := by rw [hJ1 55 (by omega) (by omega)]
        have e : wr_uI J 55 57 (J 55 57 + 1) 55 59 = J 55 59 := by simp [wr_uI]
        rw [e, this]; exact hK8
      · rw [wr_uI_ne b1, hJ1 a b3 b4]; exact hK9 a b1 b2 b5 b6
      · have e : wr_uI J 55 57 (J 55 57 + 1) 55 k = J 55 k := by simp [wr_uI, b1]
        rw [e, hJ1 55 (by omega) (by omega)]; exact hK10 k b2
    | succ k ih =>
      intro i J hi hJ1 hJ2 hJ3
      have eT : J 77 i = nx g P S i := by rw [hJ1 77 (by omega) (by omega)]; exact hK2 i (by omega)
      refine wv_iload dX8_step_202 rfl ?_
      refine wv_aload_n dX8_step_204 rfl ?_
      refine wv_getI fX8_151 dX8_step_205 rfl (by first | assumption | rfl) ?_
      refine wv_icmp_ge (tgt := 257) dX8_step_208 (by decide) (fun h208 => absurd h208 (by rw [hJ1 55 (by omega) (by omega), hK1]; exact nI_ge (by omega) (by omega))) (fun h208 => ?_)
      refine wv_aload_n dX8_step_211 rfl ?_
      refine wv_getR fX8_75 dX8_step_212 rfl (by first | assumption | rfl) (by first | exact hR _ _ _ rfl | assumption) ?_
      refine wv_iload dX8_step_215 rfl ?_
      refine wv_dup2 dX8_step_217 rfl rfl ?_
      refine wv_ialdN dX8_step_218 (by first | assumption | rfl) (by omega) (by decide) ?_
      refine wv_aload_n dX8_step_219 rfl ?_
      refine wv_getR fX8_78 dX8_step_220 rfl (by first | assumption | rfl) (by first | exact hR _ _ _ rfl | assumption) ?_
      refine wv_iload dX8_step_223 rfl ?_
      refine wv_ialdN dX8_step_225 (by first | assumption | rfl) (by omega) (by decide) ?_
      refine wv_iconst (v := 1) dX8_step_226 (by decide) ?_
      refine wv_icmp_ne (tgt := 234) dX8_step_227 (by decide) (fun h227 => ?_) (fun h227 => ?_)
      · rw [eT, nx_1] at h227
        have eR : wr_uI (wr_uI J 76 i (J 76 i + 0)) 75 i (wr_uI J 76 i (J 76 i + 0) 77 i) = wr_uI (wr_uI J 76 i (J 76 i + (if P i = true then 1 else 0))) 75 i (nx g P S i) := by
          rw [if_neg h227, show wr_uI J 76 i (J 76 i + 0) 77 i = J 77 i from by simp [wr_uI], eT]
        refine wv_iconst (v := 0) dX8_step_234 (by decide) ?_
        refine wv_iadd dX8_step_235 ?_
        refine wv_iastN dX8_step_236 (by first | assumption | rfl) (by omega) (by decide) ?_
        refine wv_aload_n dX8_step_237 rfl ?_
        refine wv_getR fX8_72 dX8_step_238 rfl (by first | assumption | rfl) (by first | exact hR _ _ _ rfl | assumption) ?_
        refine wv_iload dX8_step_241 rfl ?_
        refine wv_aload_n dX8_step_243 rfl ?_
        refine wv_getR fX8_78 dX8_step_244 rfl (by first | assumption | rfl) (by first | exact hR _ _ _ rfl | assumption) ?_
        refine wv_iload dX8_step_247 rfl ?_
        refine wv_ialdN dX8_step_249 (by first | assumption | rfl) (by omega) (by decide) ?_
        refine wv_iastN dX8_step_250 (by first | assumption | rfl) (by omega) (by decide) ?_
        refine wv_iinc (v := nI (i + 1)) dX8_step_251 rfl (nI_1 (i)) (by decide) ?_
        refine wv_goto (tgt := 202) dX8_step_254 (by decide) ?_
        rw [eR]
        refine wv_le (by simp [wr_leq, wr_s1, wr_s2, wr_wide]) (ih (i + 1) _ (by omega) (fun a b1 b2 => ?_) (fun b => ?_) (fun b => ?_))
        · rw [wr_uI_ne b1, wr_uI_ne b2]; exact hJ1 a b1 b2
        · have e5 := hJ2 b
          simp only [wr_uI]
          by_cases hbi : b = i
          · simp [hbi]
          · have e6 : (b < i + 1) ↔ b < i := by omega
            simp [hbi, e6]; exact e5
        · have e5 := hJ3 b
          simp only [wr_uI]
          by_cases hbi : b = i
          · subst hbi
            have e6 : J 76 b = K 76 b := by rw [e5]; simp
            by_cases hp : P b = true <;> simp [hp, e6]
          · have e6 : (b < i + 1) ↔ b < i := by omega
            simp [hbi, e6]; exact e5
      · rw [eT, nx_1] at h227
        have eR : wr_uI (wr_uI J 76 i (J 76 i + 1)) 75 i (wr_uI J 76 i (J 76 i + 1) 77 i) = wr_uI (wr_uI J 76 i (J 76 i + (if P i = true then 1 else 0))) 75 i (nx g P S i) := by
          rw [if_pos h227, show wr_uI J 76 i (J 76 i + 1) 77 i = J 77 i from by simp [wr_uI], eT]
        refine wv_iconst (v := 1) dX8_step_230 (by decide) ?_
        refine wv_goto (tgt := 235) dX8_step_231 (by decide) ?_
        refine wv_iadd dX8_step_235 ?_
        refine wv_iastN dX8_step_236 (by first | assumption | rfl) (by omega) (by decide) ?_
        refine wv_aload_n dX8_step_237 rfl ?_
        refine wv_getR fX8_72 dX8_step_238 rfl (by first | assumption | rfl) (by first | exact hR _ _ _ rfl | assumption) ?_
        refine wv_iload dX8_step_241 rfl ?_
        refine wv_aload_n dX8_step_243 rfl ?_
        refine wv_getR fX8_78 dX8_step_244 rfl (by first | assumption | rfl) (by first | exact hR _ _ _ rfl | assumption) ?_
        refine wv_iload dX8_step_247 rfl ?_
        refine wv_ialdN dX8_step_249 (by first | assumption | rfl) (by omega) (by decide) ?_
        refine wv_iastN dX8_step_250 (by first | assumption | rfl) (by omega) (by decide) ?_
        refine wv_iinc (v := nI (i + 1)) dX8_step_251 rfl (nI_1 (i)) (by decide) ?_
        refine wv_goto (tgt := 202) dX8_step_254 (by decide) ?_
        rw [eR]
        refine wv_le (by simp [wr_leq, wr_s1, wr_s2, wr_wide]) (ih (i + 1) _ (by omega) (fun a b1 b2 => ?_) (fun b => ?_) (fun b => ?_))
        · rw [wr_uI_ne b1, wr_uI_ne b2]; exact hJ1 a b1 b2
        · have e5 := hJ2 b
          simp only [wr_uI]
          by_cases hbi : b = i
          · simp [hbi]
          · have e6 : (b < i + 1) ↔ b < i := by omega
            simp [hbi, e6]; exact e5
        · have e5 := hJ3 b
          simp only [wr_uI]
          by_cases hbi : b = i
          · subst hbi
            have e6 : J 76 b = K 76 b := by rw [e5]; simp
            by_cases hp : P b = true <;> simp [hp, e6]
          · have e6 : (b < i + 1) ↔ b < i := by omega
            simp [hbi, e6]; exact e5
  -- the first loop
  have lp : ∀ (k i : Nat) (J : wr_TI), i + k = gN g → (∀ a, a ≠ 55 → a ≠ 74 → a ≠ 77 → a ≠ 80 → J a = I a) → (∀ k, k ≠ 59 → J 55 k = I 55 k) → J 55 59 = wz (rsA g dr S) (I 55 59) sh i → (∀ b, b < i → J 77 b = nx g P S b) → (∀ q, q < 3 → J 80 q = I 80 q + nI (wyN g (f1 S) P q i)) → wr_V l 4 mX8_step 10 [some (.ref 55), some (.int dn), some (.int (nI (upn g S))), some (.int (nI (cn P i))), some (.int (nI i)), none, none, none] [] SH J L R 0 0 (fun v s' I' L' R' => v = some (.int (nI (cn P (gN g)))) ∧ s' = SH ∧ L' = L ∧ R' = R ∧ mcV I' (stp g P S) ∧ (∀ q, q < 3 → I' 80 q = I 80 q + nI (wyN g (f1 S) P q (gN g))) ∧ I' 55 59 = wz (rsA g dr S) (I 55 59) sh (gN g) ∧ (∀ a, a ≠ 55 → a ≠ 74 → a ≠ 75 → a ≠ 76 → a ≠ 77 → a ≠ 80 → I' a = I a) ∧ ∀ k, k ≠ 57 → k ≠ 59 → I' 55 k = I 55 k) := by
    intro k
    induction k with
    | zero =>
      intro i J hi hJ1 hJ2 hJ3 hJ4 hJ5
      obtain rfl : i = gN g := by omega
      refine wv_iload dX8_step_10 rfl ?_
      refine wv_aload_n dX8_step_12 rfl ?_
      refine wv_getI fX8_151 dX8_step_13 rfl (by first | assumption | rfl) ?_
      refine wv_icmp_ge (tgt := 199) dX8_step_16 (by decide) (fun h16 => ?_) (fun h16 => absurd (by rw [hJ2 _ (by omega), hn]; exact Int32.le_refl _) h16)
      refine wv_iconst (v := nI 0) dX8_step_199 rfl ?_
      refine wv_istore dX8_step_200 (by decide) ?_
      refine wv_le (by simp [wr_leq, wr_s1, wr_s2, wr_wide]) (lp2 J (by rw [hJ2 _ (by omega)]; exact hn) hJ4 (fun b hb => by rw [hJ1 75 (by omega) (by omega) (by omega) (by omega)]; exact hS.1 b hb) (fun b hb => by rw [hJ1 76 (by omega) (by omega) (by omega) (by omega)]; exact hS.2.1 b hb) (by rw [hJ2 _ (by omega)]; exact hS.2.2.1) (by rw [hJ2 _ (by omega)]; exact hS.2.2.2) hJ5 hJ3 hJ1 hJ2 (gN g) 0 J (by omega) (fun _ _ _ => rfl) (fun b => by simp) (fun b => by simp))
    | succ k ih =>
      intro i J0 hi hI1 hI2 hI3 hI4 hI5
      have hgJ : mgV J0 g := mgV_fr hg (fun k hk => hI2 k (by omega)) (fun a ha => hI1 a (by omega) (by omega) (by omega) (by omega))
      have hSJ : mcV J0 S := mcV_fr hS (hI1 _ (by omega) (by omega) (by omega) (by omega)) (hI1 _ (by omega) (by omega) (by omega) (by omega)) (hI2 _ (by omega)) (hI2 _ (by omega))
      -- from 60 on: whether it rises is known
      have tl : ∀ (J : wr_TI), (∀ a, a ≠ 55 → a ≠ 74 → a ≠ 77 → a ≠ 80 → J a = I a) → (∀ k, k ≠ 59 → J 55 k = I 55 k) → J 55 59 = wz (rsA g dr S) (I 55 59) sh (i + 1) → (∀ b, b < i → J 77 b = nx g P S b) → (∀ q, q < 3 → J 80 q = I 80 q + nI (wyN g (f1 S) P q i)) → wr_V l 4 mX8_step 60 [some (.ref 55), some (.int dn), some (.int (nI (upn g S))), some (.int (nI (cn P i))), some (.int (nI i)), some (.int (bI (P i))), none, none] [] SH J L R 0 0 (fun v s' I' L' R' => v = some (.int (nI (cn P (gN g)))) ∧ s' = SH ∧ L' = L ∧ R' = R ∧ mcV I' (stp g P S) ∧ (∀ q, q < 3 → I' 80 q = I 80 q + nI (wyN g (f1 S) P q (gN g))) ∧ I' 55 59 = wz (rsA g dr S) (I 55 59) sh (gN g) ∧ (∀ a, a ≠ 55 → a ≠ 74 → a ≠ 75 → a ≠ 76 → a ≠ 77 → a ≠ 80 → I' a = I a) ∧ ∀ k, k ≠ 57 → k ≠ 59 → I' 55 k = I 55 k) := by
        intro J hJ1 hJ2 hJ3 hJ4 hJ5
        have eS : J 75 i = S.1 i := by rw [hJ1 75 (by omega) (by omega) (by omega) (by omega)]; exact hS.1 i (by omega)
        have eu : J 55 30 = gUp g := by rw [hJ2 _ (by omega)]; exact hg.2.2.2.2.2.2.1
        have er : J 55 31 = gRe g := by rw [hJ2 _ (by omega)]; exact hg.2.2.2.2.2.2.2.1
        by_cases hp : P i = true
        · have eb : bI (P i) = 1 := by simp [bI, hp]
          rw [eb]
          have eS1 : wr_uI J 77 i 1 55 32 = nI (gSe g) := by rw [wr_uI_ne (by omega), hJ2 _ (by omega)]; exact hg.2.2.2.2.2.2.2.2.1
          have ef : ∀ u, u < gN g → decide (wr_uI J 77 i 1 75 u = 1) = f1 S u := fun u hu => by rw [wr_uI_ne (by omega), hJ1 75 (by omega) (by omega) (by omega) (by omega), hS.1 u (by omega)]; rfl
          have hsl : sL (f1 S) (gN g) i (gM g) ≤ gM g := cn_le _ _
          have hsr : sR (f1 S) (gN g) i (gM g) ≤ gM g := cn_le _ _
          have hgm : gM g ≤ 9 := by unfold gM; omega
          have eS2 : nI (sL (fun u => decide (wr_uI J 77 i 1 75 u = 1)) (gN g) i (min (gSe g) ((gN g - 1) / 2))) = (nI (sL (f1 S) (gN g) i (gM g))) := by rw [sL_congr (by omega) ef]; rfl
          have eS3 : nI (sR (fun u => decide (wr_uI J 77 i 1 75 u = 1)) (gN g) i (min (gSe g) ((gN g - 1) / 2))) = (nI (sR (f1 S) (gN g) i (gM g))) := by rw [sR_congr (by omega) ef]; rfl
          have ec : cn P (i + 1) = cn P i + 1 := by simp [cn, hp]
          refine wv_aload_n dX8_step_60 rfl ?_
          refine wv_getR fX8_78 dX8_step_61 rfl (by first | assumption | rfl) (by first | exact hR _ _ _ rfl | assumption) ?_
          refine wv_iload dX8_step_64 rfl ?_
          refine wv_iload dX8_step_66 rfl ?_
          refine wv_if_eq (tgt := 75) dX8_step_68 (by decide) (fun h68 => absurd h68 (by decide)) (fun h68 => ?_)
          refine wv_iconst (v := 1) dX8_step_71 (by decide) ?_
          refine wv_goto (tgt := 93) dX8_step_72 (by decide) ?_
          refine wv_iastN dX8_step_93 (by first | assumption | rfl) (by omega) (by decide) ?_
          refine wv_iload dX8_step_94 rfl ?_
          refine wv_if_ne (tgt := 102) dX8_step_96 (by decide) (fun h96 => ?_) (fun h96 => absurd h96 (by decide))
          refine wv_iinc (v := nI (cn P (i + 1))) dX8_step_102 rfl (by rw [ec]; exact nI_1 _) (by decide) ?_
          refine wv_aload_n dX8_step_105 rfl ?_
          refine wv_aload_n dX8_step_106 rfl ?_
          refine wv_getR fX8_72 dX8_step_107 rfl (by first | assumption | rfl) (by first | exact hR _ _ _ rfl | assumption) ?_
          refine wv_iload dX8_step_110 rfl ?_
          refine wv_iconst (v := (-1)) dX8_step_112 (by decide) ?_
          refine wv_aload_n dX8_step_113 rfl ?_
          refine wv_getI fX8_360 dX8_step_114 rfl (by first | assumption | rfl) ?_
          rw [eS1]
          refine wv_v4e oX8_seen kX8_399 dX8_step_117 (by omega) (by first | assumption | rfl) ⟨rfl, by decide⟩ (Nat.le_of_ble_eq_true rfl) (Nat.le_of_ble_eq_true rfl) (x_seenL 75 (gN g) i (gSe g) rfl (by rw [wr_uI_ne (by omega), hJ2 _ (by omega)]; exact hg.1) k6 k40 (by omega) kse.2) ?_
          rw [eS2]
          refine wv_if_le (tgt := 127) dX8_step_120 (by decide) (fun h120 => ?_) (fun h120 => ?_)
          · refine wv_iconst (v := 0) dX8_step_127 (by decide) ?_
            refine wv_istore dX8_step_128 (by decide) ?_
            refine wv_aload_n dX8_step_130 rfl ?_
            refine wv_aload_n dX8_step_131 rfl ?_
            refine wv_getR fX8_72 dX8_step_132 rfl (by first | assumption | rfl) (by first | exact hR _ _ _ rfl | assumption) ?_
            refine wv_iload dX8_step_135 rfl ?_
            refine wv_iconst (v := 1) dX8_step_137 (by decide) ?_
            refine wv_aload_n dX8_step_138 rfl ?_
            refine wv_getI fX8_360 dX8_step_139 rfl (by first | assumption | rfl) ?_
            rw [eS1]
            refine wv_v4e oX8_seen kX8_399 dX8_step_142 (by omega) (by first | assumption | rfl) ⟨rfl, by decide⟩ (Nat.le_of_ble_eq_true rfl) (Nat.le_of_ble_eq_true rfl) (x_seenR 75 (gN g) i (gSe g) rfl (by rw [wr_uI_ne (by omega), hJ2 _ (by omega)]; exact hg.1) k6 k40 (by omega) kse.2) ?_
            rw [eS3]
            refine wv_if_le (tgt := 152) dX8_step_145 (by decide) (fun h145 => ?_) (fun h145 => ?_)
            · have hwy : wy (nI (sL (f1 S) (gN g) i (gM g))) (nI (sR (f1 S) (gN g) i (gM g))) = 2 := by
                unfold wy
                rw [if_neg (fun q => absurd q.1 (Int32.not_lt.mpr h120)), if_neg (fun q => absurd q.1 (Int32.not_lt.mpr h145))]
              refine wv_iconst (v := 0) dX8_step_152 (by decide) ?_
              refine wv_istore dX8_step_153 (by decide) ?_
              refine wv_aload_n dX8_step_155 rfl ?_
              refine wv_getR fX8_87 dX8_step_156 rfl (by first | assumption | rfl) (by first | exact hR _ _ _ rfl | assumption) ?_
              refine wv_iload dX8_step_159 rfl ?_
              refine wv_if_eq (tgt := 173) dX8_step_161 (by decide) (fun h161 => ?_) (fun h161 => absurd (by decide) h161)
              refine wv_iload dX8_step_173 rfl ?_
              refine wv_if_eq (tgt := 187) dX8_step_175 (by decide) (fun h175 => ?_) (fun h175 => absurd (by decide) h175)
              refine wv_iconst (v := nI 2) dX8_step_187 rfl ?_
              refine wv_dup2 dX8_step_188 rfl rfl ?_
              refine wv_ialdN dX8_step_189 (by first | assumption | rfl) (by omega) (by decide) ?_
              refine wv_iconst (v := 1) dX8_step_190 (by decide) ?_
              refine wv_iadd dX8_step_191 ?_
              refine wv_iastN dX8_step_192 (by first | assumption | rfl) (by omega) (by decide) ?_
              refine wv_iinc (v := nI (i + 1)) dX8_step_193 rfl (nI_1 (i)) (by decide) ?_
              refine wv_goto (tgt := 10) dX8_step_196 (by decide) ?_
              refine wv_le (by simp [wr_leq, wr_s1, wr_s2, wr_wide]) (ih (i + 1) _ (by omega) (fun a b1 b2 b3 b4 => ?_) (fun k hk => ?_) ?_ (fun b hb => ?_) (fun q hq => ?_))
              · rw [wr_uI_ne b4, wr_uI_ne b3]; exact hJ1 a b1 b2 b3 b4
              · rw [wr_uI_ne (by omega), wr_uI_ne (by omega)]; exact hJ2 k hk
              · rw [wr_uI_ne (by omega), wr_uI_ne (by omega)]; exact hJ3
              · rw [wr_uI_ne (by omega)]
                simp only [wr_uI]
                by_cases hbi : b = i
                · simp [hbi, nx, hp]
                · simp [hbi]; exact hJ4 b (by omega)
              · have e4 := hJ5 q hq
                have ew : wyN g (f1 S) P q (i + 1) = wyN g (f1 S) P q i + (if q = 2 then 1 else 0) := by
                  unfold wyN
                  simp only [cn]
                  by_cases hqk : q = 2
                  · subst hqk; simp [hp, hwy]
                  · have : ¬ 2 = q := fun z => hqk z.symm
                    simp [hp, hwy, hqk, this]
                rw [ew]
                have eJ : ∀ k, wr_uI J 77 i 1 80 k = J 80 k := fun k => by simp [wr_uI]
                simp only [wr_uI] at eJ ⊢
                by_cases hqk : q = 2
                · subst hqk
                  simp [e4]
                  rw [Int32.add_assoc, nI_1]
                · simp [hqk, e4]
              
              
            · have hwy : wy (nI (sL (f1 S) (gN g) i (gM g))) (nI (sR (f1 S) (gN g) i (gM g))) = 1 := by
                unfold wy
                rw [if_neg (fun q => absurd q.1 (Int32.not_lt.mpr h120)), if_pos ⟨Int32.not_le.mp h145, by have := Int32.not_lt.mp (nI_pos (n := sL (f1 S) (gN g) i (gM g)) (by omega)); grind⟩]
              refine wv_iconst (v := 1) dX8_step_148 (by decide) ?_
              refine wv_goto (tgt := 153) dX8_step_149 (by decide) ?_
              refine wv_istore dX8_step_153 (by decide) ?_
              refine wv_aload_n dX8_step_155 rfl ?_
              refine wv_getR fX8_87 dX8_step_156 rfl (by first | assumption | rfl) (by first | exact hR _ _ _ rfl | assumption) ?_
              refine wv_iload dX8_step_159 rfl ?_
              refine wv_if_eq (tgt := 173) dX8_step_161 (by decide) (fun h161 => ?_) (fun h161 => absurd (by decide) h161)
              refine wv_iload dX8_step_173 rfl ?_
              refine wv_if_eq (tgt := 187) dX8_step_175 (by decide) (fun h175 => absurd h175 (by decide)) (fun h175 => ?_)
              refine wv_iload dX8_step_178 rfl ?_
              refine wv_if_ne (tgt := 187) dX8_step_180 (by decide) (fun h180 => absurd (by decide) h180) (fun h180 => ?_)
              refine wv_iconst (v := nI 1) dX8_step_183 rfl ?_
              refine wv_goto (tgt := 188) dX8_step_184 (by decide) ?_
              refine wv_dup2 dX8_step_188 rfl rfl ?_
              refine wv_ialdN dX8_step_189 (by first | assumption | rfl) (by omega) (by decide) ?_
              refine wv_iconst (v := 1) dX8_step_190 (by decide) ?_
              refine wv_iadd dX8_step_191 ?_
              refine wv_iastN dX8_step_192 (by first | assumption | rfl) (by omega) (by decide) ?_
              refine wv_iinc (v := nI (i + 1)) dX8_step_193 rfl (nI_1 (i)) (by decide) ?_
              refine wv_goto (tgt := 10) dX8_step_196 (by decide) ?_
              refine wv_le (by simp [wr_leq, wr_s1, wr_s2, wr_wide]) (ih (i + 1) _ (by omega) (fun a b1 b2 b3 b4 => ?_) (fun k hk => ?_) ?_ (fun b hb => ?_) (fun q hq => ?_))
              · rw [wr_uI_ne b4, wr_uI_ne b3]; exact hJ1 a b1 b2 b3 b4
              · rw [wr_uI_ne (by omega), wr_uI_ne (by omega)]; exact hJ2 k hk
              · rw [wr_uI_ne (by omega), wr_uI_ne (by omega)]; exact hJ3
              · rw [wr_uI_ne (by omega)]
                simp only [wr_uI]
                by_cases hbi : b = i
                · simp [hbi, nx, hp]
                · simp [hbi]; exact hJ4 b (by omega)
              · have e4 := hJ5 q hq
                have ew : wyN g (f1 S) P q (i + 1) = wyN g (f1 S) P q i + (if q = 1 then 1 else 0) := by
                  unfold wyN
                  simp only [cn]
                  by_cases hqk : q = 1
                  · subst hqk; simp [hp, hwy]
                  · have : ¬ 1 = q := fun z => hqk z.symm
                    simp [hp, hwy, hqk, this]
                rw [ew]
                have eJ : ∀ k, wr_uI J 77 i 1 80 k = J 80 k := fun k => by simp [wr_uI]
                simp only [wr_uI] at eJ ⊢
                by_cases hqk : q = 1
                · subst hqk
                  simp [e4]
                  rw [Int32.add_assoc, nI_1]
                · simp [hqk, e4]
              
              
            
          · refine wv_iconst (v := 1) dX8_step_123 (by decide) ?_
            refine wv_goto (tgt := 128) dX8_step_124 (by decide) ?_
            refine wv_istore dX8_step_128 (by decide) ?_
            refine wv_aload_n dX8_step_130 rfl ?_
            refine wv_aload_n dX8_step_131 rfl ?_
            refine wv_getR fX8_72 dX8_step_132 rfl (by first | assumption | rfl) (by first | exact hR _ _ _ rfl | assumption) ?_
            refine wv_iload dX8_step_135 rfl ?_
            refine wv_iconst (v := 1) dX8_step_137 (by decide) ?_
            refine wv_aload_n dX8_step_138 rfl ?_
            refine wv_getI fX8_360 dX8_step_139 rfl (by first | assumption | rfl) ?_
            rw [eS1]
            refine wv_v4e oX8_seen kX8_399 dX8_step_142 (by omega) (by first | assumption | rfl) ⟨rfl, by decide⟩ (Nat.le_of_ble_eq_true rfl) (Nat.le_of_ble_eq_true rfl) (x_seenR 75 (gN g) i (gSe g) rfl (by rw [wr_uI_ne (by omega), hJ2 _ (by omega)]; exact hg.1) k6 k40 (by omega) kse.2) ?_
            rw [eS3]
            refine wv_if_le (tgt := 152) dX8_step_145 (by decide) (fun h145 => ?_) (fun h145 => ?_)
            · have hwy : wy (nI (sL (f1 S) (gN g) i (gM g))) (nI (sR (f1 S) (gN g) i (gM g))) = 0 := by
                unfold wy
                rw [if_pos ⟨Int32.not_le.mp h120, by have := Int32.not_lt.mp (nI_pos (n := sR (f1 S) (gN g) i (gM g)) (by omega)); grind⟩]
              refine wv_iconst (v := 0) dX8_step_152 (by decide) ?_
              refine wv_istore dX8_step_153 (by decide) ?_
              refine wv_aload_n dX8_step_155 rfl ?_
              refine wv_getR fX8_87 dX8_step_156 rfl (by first | assumption | rfl) (by first | exact hR _ _ _ rfl | assumption) ?_
              refine wv_iload dX8_step_159 rfl ?_
              refine wv_if_eq (tgt := 173) dX8_step_161 (by decide) (fun h161 => absurd h161 (by decide)) (fun h161 => ?_)
              refine wv_iload dX8_step_164 rfl ?_
              refine wv_if_ne (tgt := 173) dX8_step_166 (by decide) (fun h166 => absurd (by decide) h166) (fun h166 => ?_)
              refine wv_iconst (v := nI 0) dX8_step_169 rfl ?_
              refine wv_goto (tgt := 188) dX8_step_170 (by decide) ?_
              refine wv_dup2 dX8_step_188 rfl rfl ?_
              refine wv_ialdN dX8_step_189 (by first | assumption | rfl) (by omega) (by decide) ?_
              refine wv_iconst (v := 1) dX8_step_190 (by decide) ?_
              refine wv_iadd dX8_step_191 ?_
              refine wv_iastN dX8_step_192 (by first | assumption | rfl) (by omega) (by decide) ?_
              refine wv_iinc (v := nI (i + 1)) dX8_step_193 rfl (nI_1 (i)) (by decide) ?_
              refine wv_goto (tgt := 10) dX8_step_196 (by decide) ?_
              refine wv_le (by simp [wr_leq, wr_s1, wr_s2, wr_wide]) (ih (i + 1) _ (by omega) (fun a b1 b2 b3 b4 => ?_) (fun k hk => ?_) ?_ (fun b hb => ?_) (fun q hq => ?_))
              · rw [wr_uI_ne b4, wr_uI_ne b3]; exact hJ1 a b1 b2 b3 b4
              · rw [wr_uI_ne (by omega), wr_uI_ne (by omega)]; exact hJ2 k hk
              · rw [wr_uI_ne (by omega), wr_uI_ne (by omega)]; exact hJ3
              · rw [wr_uI_ne (by omega)]
                simp only [wr_uI]
                by_cases hbi : b = i
                · simp [hbi, nx, hp]
                · simp [hbi]; exact hJ4 b (by omega)
              · have e4 := hJ5 q hq
                have ew : wyN g (f1 S) P q (i + 1) = wyN g (f1 S) P q i + (if q = 0 then 1 else 0) := by
                  unfold wyN
                  simp only [cn]
                  by_cases hqk : q = 0
                  · subst hqk; simp [hp, hwy]
                  · have : ¬ 0 = q := fun z => hqk z.symm
                    simp [hp, hwy, hqk, this]
                rw [ew]
                have eJ : ∀ k, wr_uI J 77 i 1 80 k = J 80 k := fun k => by simp [wr_uI]
                simp only [wr_uI] at eJ ⊢
                by_cases hqk : q = 0
                · subst hqk
                  simp [e4]
                  rw [Int32.add_assoc, nI_1]
                · simp [hqk, e4]
              
              
            · have hwy : wy (nI (sL (f1 S) (gN g) i (gM g))) (nI (sR (f1 S) (gN g) i (gM g))) = 2 := by
                unfold wy
                rw [if_neg (fun q => h145 (by rw [q.2]; exact Int32.le_refl _)), if_neg (fun q => h120 (by rw [q.2]; exact Int32.le_refl _))]
              refine wv_iconst (v := 1) dX8_step_148 (by decide) ?_
              refine wv_goto (tgt := 153) dX8_step_149 (by decide) ?_
              refine wv_istore dX8_step_153 (by decide) ?_
              refine wv_aload_n dX8_step_155 rfl ?_
              refine wv_getR fX8_87 dX8_step_156 rfl (by first | assumption | rfl) (by first | exact hR _ _ _ rfl | assumption) ?_
              refine wv_iload dX8_step_159 rfl ?_
              refine wv_if_eq (tgt := 173) dX8_step_161 (by decide) (fun h161 => absurd h161 (by decide)) (fun h161 => ?_)
              refine wv_iload dX8_step_164 rfl ?_
              refine wv_if_ne (tgt := 173) dX8_step_166 (by decide) (fun h166 => ?_) (fun h166 => absurd h166 (by decide))
              refine wv_iload dX8_step_173 rfl ?_
              refine wv_if_eq (tgt := 187) dX8_step_175 (by decide) (fun h175 => absurd h175 (by decide)) (fun h175 => ?_)
              refine wv_iload dX8_step_178 rfl ?_
              refine wv_if_ne (tgt := 187) dX8_step_180 (by decide) (fun h180 => ?_) (fun h180 => absurd h180 (by decide))
              refine wv_iconst (v := nI 2) dX8_step_187 rfl ?_
              refine wv_dup2 dX8_step_188 rfl rfl ?_
              refine wv_ialdN dX8_step_189 (by first | assumption | rfl) (by omega) (by decide) ?_
              refine wv_iconst (v := 1) dX8_step_190 (by decide) ?_
              refine wv_iadd dX8_step_191 ?_
              refine wv_iastN dX8_step_192 (by first | assumption | rfl) (by omega) (by decide) ?_
              refine wv_iinc (v := nI (i + 1)) dX8_step_193 rfl (nI_1 (i)) (by decide) ?_
              refine wv_goto (tgt := 10) dX8_step_196 (by decide) ?_
              refine wv_le (by simp [wr_leq, wr_s1, wr_s2, wr_wide]) (ih (i + 1) _ (by omega) (fun a b1 b2 b3 b4 => ?_) (fun k hk => ?_) ?_ (fun b hb => ?_) (fun q hq => ?_))
              · rw [wr_uI_ne b4, wr_uI_ne b3]; exact hJ1 a b1 b2 b3 b4
              · rw [wr_uI_ne (by omega), wr_uI_ne (by omega)]; exact hJ2 k hk
              · rw [wr_uI_ne (by omega), wr_uI_ne (by omega)]; exact hJ3
              · rw [wr_uI_ne (by omega)]
                simp only [wr_uI]
                by_cases hbi : b = i
                · simp [hbi, nx, hp]
                · simp [hbi]; exact hJ4 b (by omega)
              · have e4 := hJ5 q hq
                have ew : wyN g (f1 S) P q (i + 1) = wyN g (f1 S) P q i + (if q = 2 then 1 else 0) := by
                  unfold wyN
                  simp only [cn]
                  by_cases hqk : q = 2
                  · subst hqk; simp [hp, hwy]
                  · have : ¬ 2 = q := fun z => hqk z.symm
                    simp [hp, hwy, hqk, this]
                rw [ew]
                have eJ : ∀ k, wr_uI J 77 i 1 80 k = J 80 k := fun k => by simp [wr_uI]
                simp only [wr_uI] at eJ ⊢
                by_cases hqk : q = 2
                · subst hqk
                  simp [e4]
                  rw [Int32.add_assoc, nI_1]
                · simp [hqk, e4]
              
              
            
        · have eb : bI (P i) = 0 := by simp [bI, hp]
          rw [eb]
          have ec : cn P (i + 1) = cn P i := by simp [cn, hp]
          refine wv_aload_n dX8_step_60 rfl ?_
          refine wv_getR fX8_78 dX8_step_61 rfl (by first | assumption | rfl) (by first | exact hR _ _ _ rfl | assumption) ?_
          refine wv_iload dX8_step_64 rfl ?_
          refine wv_iload dX8_step_66 rfl ?_
          refine wv_if_eq (tgt := 75) dX8_step_68 (by decide) (fun h68 => ?_) (fun h68 => absurd (by decide) h68)
          refine wv_aload_n dX8_step_75 rfl ?_
          refine wv_getR fX8_72 dX8_step_76 rfl (by first | assumption | rfl) (by first | exact hR _ _ _ rfl | assumption) ?_
          refine wv_iload dX8_step_79 rfl ?_
          refine wv_ialdN dX8_step_81 (by first | assumption | rfl) (by omega) (by decide) ?_
          refine wv_aload_n dX8_step_82 rfl ?_
          refine wv_getI fX8_354 dX8_step_83 rfl (by first | assumption | rfl) ?_
          refine wv_aload_n dX8_step_86 rfl ?_
          refine wv_getI fX8_357 dX8_step_87 rfl (by first | assumption | rfl) ?_
          rw [eu, er, eS]
          refine wv_s3e oX8_behind kX8_424 dX8_step_90 (by omega) (Nat.le_of_ble_eq_true rfl) (Nat.le_of_ble_eq_true rfl) (x_behind _ _ _) ?_
          refine wv_iastN dX8_step_93 (by first | assumption | rfl) (by omega) (by decide) ?_
          refine wv_iload dX8_step_94 rfl ?_
          refine wv_if_ne (tgt := 102) dX8_step_96 (by decide) (fun h96 => absurd (by decide) h96) (fun h96 => ?_)
          refine wv_goto (tgt := 193) dX8_step_99 (by decide) ?_
          refine wv_iinc (v := nI (i + 1)) dX8_step_193 rfl (nI_1 (i)) (by decide) ?_
          refine wv_goto (tgt := 10) dX8_step_196 (by decide) ?_
          rw [← ec]
          refine wv_le (by simp [wr_leq, wr_s1, wr_s2, wr_wide]) (ih (i + 1) _ (by omega) (fun a b1 b2 b3 b4 => ?_) (fun k hk => ?_) ?_ (fun b hb => ?_) (fun q hq => ?_))
          · rw [wr_uI_ne b3]; exact hJ1 a b1 b2 b3 b4
          · rw [wr_uI_ne (by omega)]; exact hJ2 k hk
          · rw [wr_uI_ne (by omega)]; exact hJ3
          · simp only [wr_uI]
            by_cases hbi : b = i
            · simp [hbi, nx, hp]
            · simp [hbi]; exact hJ4 b (by omega)
          · rw [wr_uI_ne (by omega), hJ5 q hq]
            have ew : wyN g (f1 S) P q (i + 1) = wyN g (f1 S) P q i := by
              unfold wyN
              simp [cn, hp]
            rw [ew]
      have hAi := hAs i (by omega)
      have hPi := hPA i (by omega)
      refine wv_iload dX8_step_10 rfl ?_
      refine wv_aload_n dX8_step_12 rfl ?_
      refine wv_getI fX8_151 dX8_step_13 rfl (by first | assumption | rfl) ?_
      refine wv_icmp_ge (tgt := 199) dX8_step_16 (by decide) (fun h16 => absurd h16 (by rw [hI2 _ (by omega), hn]; exact nI_ge (by omega) (by omega))) (fun h16 => ?_)
      refine wv_aload_n dX8_step_19 rfl ?_
      refine wv_iload dX8_step_20 rfl ?_
      refine wv_iload_n dX8_step_22 rfl ?_
      refine wv_v2 oX8_wants kX8_417 dX8_step_23 (by omega) (by first | assumption | rfl) ⟨rfl, by decide⟩ (Nat.le_of_ble_eq_true rfl) (Nat.le_of_ble_eq_true rfl) (x_wants hR g S ok hgJ hSJ i (by omega) dr (by rw [hI1 60 (by omega) (by omega) (by omega) (by omega), hI1 82 (by omega) (by omega) (by omega) (by omega)]; exact hdr i (by omega))) (fun v9 s9 J1 L9 R9 h9 => ?_)
      obtain ⟨rfl, rfl, rfl, rfl, h9⟩ := h9
      refine wv_if_eq (tgt := 57) dX8_step_26 (by decide) (fun h26 => ?_) (fun h26 => ?_)
      · rw [if10] at h26
        have hp : P i = false := by rw [hPi]; simp [h26]
        have ew : wz (rsA g dr S) (I 55 59) sh (i + 1) = wz (rsA g dr S) (I 55 59) sh i := by unfold wz; simp [dw, hAi, h26]
        have eb : bI (P i) = 0 := by simp [bI, hp]
        refine wv_iconst (v := 0) dX8_step_57 (by decide) ?_
        refine wv_istore dX8_step_58 (by decide) ?_
        rw [← eb]
        first
          | (have _ := ew0
             refine wv_le (by simp [wr_leq, wr_s1, wr_s2, wr_wide]) (tl _ (fun a b1 b2 b3 b4 => ?_) (fun k hk => ?_) ?_ (fun b hb => ?_) (fun q hq => ?_))
             · rw [wr_uI_ne b1, h9 a b2]; exact hI1 a b1 b2 b3 b4
             · have e : wr_uI J1 55 59 (drw (J1 55 59)) 55 k = J1 55 k := by simp [wr_uI, hk]
               rw [e, h9 55 (by omega)]; exact hI2 k hk
             · rw [ew1, ← ew0]; simp [wr_uI]
             · rw [wr_uI_ne (by omega), h9 77 (by omega)]; exact hI4 b hb
             · rw [wr_uI_ne (by omega), h9 80 (by omega)]; exact hI5 q hq)
          | (refine wv_le (by simp [wr_leq, wr_s1, wr_s2, wr_wide]) (tl J1 (fun a b1 b2 b3 b4 => ?_) (fun k hk => ?_) ?_ (fun b hb => ?_) (fun q hq => ?_))
             · rw [h9 a b2]; exact hI1 a b1 b2 b3 b4
             · rw [h9 55 (by omega)]; exact hI2 k hk
             · rw [ew, h9 55 (by omega)]; exact hI3
             · rw [h9 77 (by omega)]; exact hI4 b hb
             · rw [h9 80 (by omega)]; exact hI5 q hq)
      · rw [if10, Decidable.not_not] at h26
        refine wv_iload_n dX8_step_29 rfl ?_
        refine wv_if_eq (tgt := 53) dX8_step_30 (by decide) (fun h30 => ?_) (fun h30 => ?_)
        · have hs0 : sh = 0 := by
            rcases hdn with q | q
            · exact q.2
            · exact absurd (q.1.symm.trans h30) (by decide)
          have hp : P i = true := by rw [hPi, hs0]; simp [h26]
          have ew : wz (rsA g dr S) (I 55 59) sh (i + 1) = wz (rsA g dr S) (I 55 59) sh i := by unfold wz; rw [hs0]; simp
          have eb : bI (P i) = 1 := by simp [bI, hp]
          refine wv_iconst (v := 1) dX8_step_53 (by decide) ?_
          refine wv_goto (tgt := 58) dX8_step_54 (by decide) ?_
          refine wv_istore dX8_step_58 (by decide) ?_
          rw [← eb]
          first
            | (have _ := ew0
               refine wv_le (by simp [wr_leq, wr_s1, wr_s2, wr_wide]) (tl _ (fun a b1 b2 b3 b4 => ?_) (fun k hk => ?_) ?_ (fun b hb => ?_) (fun q hq => ?_))
               · rw [wr_uI_ne b1, h9 a b2]; exact hI1 a b1 b2 b3 b4
               · have e : wr_uI J1 55 59 (drw (J1 55 59)) 55 k = J1 55 k := by simp [wr_uI, hk]
                 rw [e, h9 55 (by omega)]; exact hI2 k hk
               · rw [ew1, ← ew0]; simp [wr_uI]
               · rw [wr_uI_ne (by omega), h9 77 (by omega)]; exact hI4 b hb
               · rw [wr_uI_ne (by omega), h9 80 (by omega)]; exact hI5 q hq)
            | (refine wv_le (by simp [wr_leq, wr_s1, wr_s2, wr_wide]) (tl J1 (fun a b1 b2 b3 b4 => ?_) (fun k hk => ?_) ?_ (fun b hb => ?_) (fun q hq => ?_))
               · rw [h9 a b2]; exact hI1 a b1 b2 b3 b4
               · rw [h9 55 (by omega)]; exact hI2 k hk
               · rw [ew, h9 55 (by omega)]; exact hI3
               · rw [h9 77 (by omega)]; exact hI4 b hb
               · rw [h9 80 (by omega)]; exact hI5 q hq)
        · have hs1 : sh = gSh g := by
            rcases hdn with q | q
            · exact absurd q.1 h30
            · exact q.2
          have esh : J1 55 33 = sh := by rw [h9 55 (by omega), hI2 _ (by omega), hs1]; exact hg.2.2.2.2.2.2.2.2.2.1
          refine wv_aload_n dX8_step_33 rfl ?_
          refine wv_getI fX8_363 dX8_step_34 rfl (by first | assumption | rfl) ?_
          refine wv_if_le (tgt := 53) dX8_step_37 (by decide) (fun h37 => ?_) (fun h37 => ?_)
          · rw [esh] at h37
            have hs0 : ¬ 0 < sh := Int32.not_lt.mpr h37
            have hp : P i = true := by rw [hPi]; simp [h26, hs0]
            have ew : wz (rsA g dr S) (I 55 59) sh (i + 1) = wz (rsA g dr S) (I 55 59) sh i := by unfold wz; simp [hs0]
            have eb : bI (P i) = 1 := by simp [bI, hp]
            refine wv_iconst (v := 1) dX8_step_53 (by decide) ?_
            refine wv_goto (tgt := 58) dX8_step_54 (by decide) ?_
            refine wv_istore dX8_step_58 (by decide) ?_
            rw [← eb]
            first
              | (have _ := ew0
                 refine wv_le (by simp [wr_leq, wr_s1, wr_s2, wr_wide]) (tl _ (fun a b1 b2 b3 b4 => ?_) (fun k hk => ?_) ?_ (fun b hb => ?_) (fun q hq => ?_))
                 · rw [wr_uI_ne b1, h9 a b2]; exact hI1 a b1 b2 b3 b4
                 · have e : wr_uI J1 55 59 (drw (J1 55 59)) 55 k = J1 55 k := by simp [wr_uI, hk]
                   rw [e, h9 55 (by omega)]; exact hI2 k hk
                 · rw [ew1, ← ew0]; simp [wr_uI]
                 · rw [wr_uI_ne (by omega), h9 77 (by omega)]; exact hI4 b hb
                 · rw [wr_uI_ne (by omega), h9 80 (by omega)]; exact hI5 q hq)
              | (refine wv_le (by simp [wr_leq, wr_s1, wr_s2, wr_wide]) (tl J1 (fun a b1 b2 b3 b4 => ?_) (fun k hk => ?_) ?_ (fun b hb => ?_) (fun q hq => ?_))
                 · rw [h9 a b2]; exact hI1 a b1 b2 b3 b4
                 · rw [h9 55 (by omega)]; exact hI2 k hk
                 · rw [ew, h9 55 (by omega)]; exact hI3
                 · rw [h9 77 (by omega)]; exact hI4 b hb
                 · rw [h9 80 (by omega)]; exact hI5 q hq)
          · rw [esh] at h37
            have hs0 : 0 < sh := Int32.not_le.mp h37
            have ew0 : J1 55 59 = dw (rsA g dr S) (I 55 59) i := by rw [h9 55 (by omega), hI3]; unfold wz; rw [if_pos hs0]
            have ew1 : wz (rsA g dr S) (I 55 59) sh (i + 1) = drw (dw (rsA g dr S) (I 55 59) i) := by unfold wz; rw [if_pos hs0]; simp [dw, hAi, h26]
            refine wv_aload_n dX8_step_40 rfl ?_
            refine wv_bipush (v := 10) dX8_step_41 (by decide) ?_
            refine wv_v1e oX8_draw kX8_421 dX8_step_43 (by omega) (by first | assumption | rfl) ⟨rfl, by decide⟩ (Nat.le_of_ble_eq_true rfl) (Nat.le_of_ble_eq_true rfl) x_draw ?_
            refine wv_aload_n dX8_step_46 rfl ?_
            refine wv_getI fX8_363 dX8_step_47 rfl (by first | assumption | rfl) ?_
            refine wv_icmp_lt (tgt := 57) dX8_step_50 (by decide) (fun h50 => ?_) (fun h50 => ?_)
            · rw [ew0, show wr_uI J1 55 59 (drw (dw (rsA g dr S) (I 55 59) i)) 55 33 = J1 55 33 from by simp [wr_uI], esh] at h50
              have hp : P i = false := by rw [hPi]; simp [h26, hs0, h50]
              have eb : bI (P i) = 0 := by simp [bI, hp]
              refine wv_iconst (v := 0) dX8_step_57 (by decide) ?_
              refine wv_istore dX8_step_58 (by decide) ?_
              rw [← eb]
              first
                | (have _ := ew0
                   refine wv_le (by simp [wr_leq, wr_s1, wr_s2, wr_wide]) (tl _ (fun a b1 b2 b3 b4 => ?_) (fun k hk => ?_) ?_ (fun b hb => ?_) (fun q hq => ?_))
                   · rw [wr_uI_ne b1, h9 a b2]; exact hI1 a b1 b2 b3 b4
                   · have e : wr_uI J1 55 59 (drw (J1 55 59)) 55 k = J1 55 k := by simp [wr_uI, hk]
                     rw [e, h9 55 (by omega)]; exact hI2 k hk
                   · rw [ew1, ← ew0]; simp [wr_uI]
                   · rw [wr_uI_ne (by omega), h9 77 (by omega)]; exact hI4 b hb
                   · rw [wr_uI_ne (by omega), h9 80 (by omega)]; exact hI5 q hq)
                | (refine wv_le (by simp [wr_leq, wr_s1, wr_s2, wr_wide]) (tl J1 (fun a b1 b2 b3 b4 => ?_) (fun k hk => ?_) ?_ (fun b hb => ?_) (fun q hq => ?_))
                   · rw [h9 a b2]; exact hI1 a b1 b2 b3 b4
                   · rw [h9 55 (by omega)]; exact hI2 k hk
                   · rw [ew, h9 55 (by omega)]; exact hI3
                   · rw [h9 77 (by omega)]; exact hI4 b hb
                   · rw [h9 80 (by omega)]; exact hI5 q hq)
            · rw [ew0, show wr_uI J1 55 59 (drw (dw (rsA g dr S) (I 55 59) i)) 55 33 = J1 55 33 from by simp [wr_uI], esh] at h50
              have hp : P i = true := by rw [hPi]; simp [h26, hs0, h50]
              have eb : bI (P i) = 1 := by simp [bI, hp]
              refine wv_iconst (v := 1) dX8_step_53 (by decide) ?_
              refine wv_goto (tgt := 58) dX8_step_54 (by decide) ?_
              refine wv_istore dX8_step_58 (by decide) ?_
              rw [← eb]
              first
                | (have _ := ew0
                   refine wv_le (by simp [wr_leq, wr_s1, wr_s2, wr_wide]) (tl _ (fun a b1 b2 b3 b4 => ?_) (fun k hk => ?_) ?_ (fun b hb => ?_) (fun q hq => ?_))
                   · rw [wr_uI_ne b1, h9 a b2]; exact hI1 a b1 b2 b3 b4
                   · have e : wr_uI J1 55 59 (drw (J1 55 59)) 55 k = J1 55 k := by simp [wr_uI, hk]
                     rw [e, h9 55 (by omega)]; exact hI2 k hk
                   · rw [ew1, ← ew0]; simp [wr_uI]
                   · rw [wr_uI_ne (by omega), h9 77 (by omega)]; exact hI4 b hb
                   · rw [wr_uI_ne (by omega), h9 80 (by omega)]; exact hI5 q hq)
                | (refine wv_le (by simp [wr_leq, wr_s1, wr_s2, wr_wide]) (tl J1 (fun a b1 b2 b3 b4 => ?_) (fun k hk => ?_) ?_ (fun b hb => ?_) (fun q hq => ?_))
                   · rw [h9 a b2]; exact hI1 a b1 b2 b3 b4
                   · rw [h9 55 (by omega)]; exact hI2 k hk
                   · rw [ew, h9 55 (by omega)]; exact hI3
                   · rw [h9 77 (by omega)]; exact hI4 b hb
                   · rw [h9 80 (by omega)]; exact hI5 q hq)
  refine wv_pad 6 ?_
  show wr_V l 4 mX8_step 0 [some (.ref 55), some (.int dn), none, none, none, none, none, none] [] SH I L R 0 0 _
  refine wv_aload_n dX8_step_0 rfl ?_
  refine wv_v0e oX8_ups kX8_414 dX8_step_1 (by omega) (by first | assumption | rfl) ⟨rfl, by decide⟩ (Nat.le_of_ble_eq_true rfl) (Nat.le_of_ble_eq_true rfl) (x_ups hR (gN g) hn k40) ?_
  rw [← hup]
  refine wv_istore_k (i := 2) dX8_step_4 rfl (by decide) ?_
  refine wv_iconst (v := nI (cn P 0)) dX8_step_5 rfl ?_
  refine wv_istore_k (i := 3) dX8_step_6 rfl (by decide) ?_
  refine wv_iconst (v := nI 0) dX8_step_7 rfl ?_
  refine wv_istore dX8_step_8 (by decide) ?_
  exact wv_le (by simp [wr_leq, wr_s1, wr_s2, wr_wide]) (lp (gN g) 0 I (by omega) (fun _ _ _ _ _ => rfl) (fun _ _ => rfl) (by simp [wz, dw]) (fun b hb => by omega) (fun q hq => by simp [wyN, cn]; rfl))

