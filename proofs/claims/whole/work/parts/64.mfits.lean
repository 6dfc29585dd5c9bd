/-! the model: fits, fit, sure, same -/
theorem frP_tr {r : Nat} {I I1 I2 : wr_TI} (h1 : frP r I I1) (h2 : frP r I1 I2) : frP r I I2 := ⟨fun a b1 b2 b3 => (h2.1 a b1 b2 b3).trans (h1.1 a b1 b2 b3), fun b hb => (h2.2 b hb).trans (h1.2 b hb)⟩
theorem nar1 : vp_nar .boolean 1 = 1 := rfl
theorem nar0 : vp_nar .boolean 0 = 0 := rfl
theorem narB (b : Bool) : vp_nar .boolean (bI b) = bI b := by cases b <;> rfl
set_option maxHeartbeats 4000000 in
set_option maxRecDepth 100000 in
theorem x_fitsAll {l : Launch} {I : wr_TI} {L : wr_TL} {R : wr_TR} (hR : wr_RC R) (g : RG) (ok : gOK g) (hg : mgV I g) (kx : Nat → Option Int64) (hk : kM I L kx) (f : Nat) (u : Int64) (hff : fst (fun x => (kx x).isSome) 40 = some f) (hu : kx f = some u) (a : Nat) (ha : a < 324) : wr_P l 3 mX8_fitsAll [.ref 55, .int (nI a)] SH I L R (fun v s' I' L' R' => v = some (.int (bI (flG g a kx (39 - f) (f + 1) (ps0 g (lb u))))) ∧ s' = SH ∧ L' = L ∧ R' = R ∧ frP 0 I I') := by
  obtain ⟨k6, k40, -⟩ := id ok
  have hfl := fst_lt hff
  have hff2 : I 55 71 = nI f := by rw [hk.2.2, hff]; rfl
  have huf := hk.2.1 f u hfl hu
  have lp : ∀ (k q : Nat) (ps : Nat → Int32) (J : wr_TI), q + k = 40 → pV J 0 g ps → frP 0 I J → wr_V l 3 mX8_fitsAll 21 [some (.ref 55), some (.int (nI a)), some (.int (nI q))] [] SH J L R 0 0 (fun v s' I' L' R' => v = some (.int (bI (flG g a kx k q ps))) ∧ s' = SH ∧ L' = L ∧ R' = R ∧ frP 0 I I') := by
    intro k
    induction k with
    | zero =>
      intro q ps J hq hp hf
      refine wv_iload_n dX8_fitsAll_21 rfl ?_
      refine wv_bipush (v := 40) dX8_fitsAll_22 (by decide) ?_
      refine wv_icmp_ge (tgt := 65) dX8_fitsAll_24 (by decide) (fun h24 => ?_) (fun h24 => absurd (nI_le (a := 40) (by omega) (by omega)) h24)
      refine wv_iconst (v := 1) dX8_fitsAll_65 (by decide) ?_
      refine wv_zret rfl rfl dX8_fitsAll_66 ?_
      exact ⟨rfl, rfl, rfl, rfl, hf⟩
    | succ k ih =>
      intro q ps J hq hp hf
      have hkJ := kM_P hf hk
      refine wv_iload_n dX8_fitsAll_21 rfl ?_
      refine wv_bipush (v := 40) dX8_fitsAll_22 (by decide) ?_
      refine wv_icmp_ge (tgt := 65) dX8_fitsAll_24 (by decide) (fun h24 => absurd h24 (nI_ge (b := 40) (by omega) (by omega))) (fun h24 => ?_)
      refine wv_aload_n dX8_fitsAll_27 rfl ?_
      refine wv_iconst (v := nI 0) dX8_fitsAll_28 rfl ?_
      refine wv_iload_n dX8_fitsAll_29 rfl ?_
      refine wv_v2 oX8_stepPlain kX8_484 dX8_fitsAll_30 (by omega) (by first | assumption | rfl) ⟨rfl, by decide⟩ (Nat.le_of_ble_eq_true rfl) (Nat.le_of_ble_eq_true rfl) (x_stepP hR g ok (frP_g hf hg) 0 (by omega) a ha ps hp) (fun v9 s9 J9 L9 R9 h9 => ?_)
      obtain ⟨rfl, rfl, rfl, rfl, hp9, hf9⟩ := h9
      refine wv_aload_n dX8_fitsAll_33 rfl ?_
      refine wv_getR fX8_115 dX8_fitsAll_34 rfl (by first | assumption | rfl) (by first | exact hR _ _ _ rfl | assumption) ?_
      refine wv_iload_n dX8_fitsAll_37 rfl ?_
      refine wv_zaldN dX8_fitsAll_38 (by first | assumption | rfl) (by omega) (by decide) ?_
      refine wv_if_eq (tgt := 59) dX8_fitsAll_39 (by decide) (fun h39 => ?_) (fun h39 => ?_)
      · rw [(kM_P hf9 hkJ).1 q (by omega), bI_0] at h39
        have hn : kx q = none := by cases hz : kx q with | none => rfl | some z => rw [hz] at h39; simp at h39
        refine wv_iinc (v := nI (q + 1)) dX8_fitsAll_59 rfl (nI_1 (q)) (by decide) ?_
        refine wv_goto (tgt := 21) dX8_fitsAll_62 (by decide) ?_
        first
          | (have _ := hzu
             refine wr_V.imp (wv_le (by simp [wr_leq, wr_s1, wr_s2, wr_wide]) (ih (q + 1) _ J9 (by omega) hp9 (frP_tr hf hf9))) (fun v s' I' L' R' h => ⟨h.1.trans ?_, h.2⟩)
             simp only [flG, hz, ee, Bool.true_and])
          | (refine wr_V.imp (wv_le (by simp [wr_leq, wr_s1, wr_s2, wr_wide]) (ih (q + 1) _ J9 (by omega) hp9 (frP_tr hf hf9))) (fun v s' I' L' R' h => ⟨h.1.trans ?_, h.2⟩)
             simp only [flG, hn, Bool.true_and])
      · rw [(kM_P hf9 hkJ).1 q (by omega), bI_0] at h39
        obtain ⟨z, hz⟩ : ∃ z, kx q = some z := by cases hz : kx q with | none => rw [hz] at h39; simp at h39 | some z => exact ⟨z, rfl⟩
        have hzu := hk.2.1 q z (by omega) hz
        refine wv_aload_n dX8_fitsAll_42 rfl ?_
        refine wv_iconst (v := nI 0) dX8_fitsAll_43 rfl ?_
        refine wv_v1e oX8_upsOf kX8_487 dX8_fitsAll_44 (by omega) (by first | assumption | rfl) ⟨rfl, by decide⟩ (Nat.le_of_ble_eq_true rfl) (Nat.le_of_ble_eq_true rfl) (x_upsOf hR g k40 (frP_g hf9 (frP_g hf hg)).1 0 (by omega) _ hp9) ?_
        refine wv_aload_n dX8_fitsAll_47 rfl ?_
        refine wv_getR fX8_112 dX8_fitsAll_48 rfl (by first | assumption | rfl) (by first | exact hR _ _ _ rfl | assumption) ?_
        refine wv_iload_n dX8_fitsAll_51 rfl ?_
        refine wv_laldN dX8_fitsAll_52 (by first | assumption | rfl) (by omega) (by decide) ?_
        refine wv_lcmp dX8_fitsAll_53 ?_
        refine wv_if_eq (tgt := 59) dX8_fitsAll_54 (by decide) (fun h54 => ?_) (fun h54 => ?_)
        · rw [lg_cmp_eq, hzu] at h54
          have ee : decide (uL (gN g) (pst g a ps) = z) = true := by simp [h54]
          refine wv_iinc (v := nI (q + 1)) dX8_fitsAll_59 rfl (nI_1 (q)) (by decide) ?_
          refine wv_goto (tgt := 21) dX8_fitsAll_62 (by decide) ?_
          first
            | (have _ := hzu
               refine wr_V.imp (wv_le (by simp [wr_leq, wr_s1, wr_s2, wr_wide]) (ih (q + 1) _ J9 (by omega) hp9 (frP_tr hf hf9))) (fun v s' I' L' R' h => ⟨h.1.trans ?_, h.2⟩)
               simp only [flG, hz, ee, Bool.true_and])
            | (refine wr_V.imp (wv_le (by simp [wr_leq, wr_s1, wr_s2, wr_wide]) (ih (q + 1) _ J9 (by omega) hp9 (frP_tr hf hf9))) (fun v s' I' L' R' h => ⟨h.1.trans ?_, h.2⟩)
               simp only [flG, hn, Bool.true_and])
        · rw [lg_cmp_eq, hzu] at h54
          have ee : decide (uL (gN g) (pst g a ps) = z) = false := by simp [h54]
          refine wv_iconst (v := 0) dX8_fitsAll_57 (by decide) ?_
          refine wv_zret rfl rfl dX8_fitsAll_58 ?_
          refine ⟨?_, rfl, rfl, rfl, frP_tr hf hf9⟩
          simp [flG, hz, ee, bI]
  refine wv_pad 1 ?_
  show wr_V l 3 mX8_fitsAll 0 [some (.ref 55), some (.int (nI a)), none] [] SH I L R 0 0 _
  refine wv_aload_n dX8_fitsAll_0 rfl ?_
  refine wv_iconst (v := nI 0) dX8_fitsAll_1 rfl ?_
  refine wv_aload_n dX8_fitsAll_2 rfl ?_
  refine wv_getR fX8_112 dX8_fitsAll_3 rfl (by first | assumption | rfl) (by first | exact hR _ _ _ rfl | assumption) ?_
  refine wv_aload_n dX8_fitsAll_6 rfl ?_
  refine wv_getI fX8_477 dX8_fitsAll_7 rfl (by first | assumption | rfl) ?_
  rw [hff2]
  refine wv_laldN dX8_fitsAll_10 (by first | assumption | rfl) (by omega) (by decide) ?_
  rw [huf]
  refine wv_v2 oX8_startPlain kX8_480 dX8_fitsAll_11 (by omega) (by first | assumption | rfl) ⟨rfl, by decide⟩ (Nat.le_of_ble_eq_true rfl) (Nat.le_of_ble_eq_true rfl) (x_startP hR g ok hg 0 (by omega) u) (fun v9 s9 J9 L9 R9 h9 => ?_)
  obtain ⟨rfl, rfl, rfl, rfl, hp9, hf9⟩ := h9
  refine wv_aload_n dX8_fitsAll_14 rfl ?_
  refine wv_getI fX8_477 dX8_fitsAll_15 rfl (by first | assumption | rfl) ?_
  refine wv_iconst (v := 1) dX8_fitsAll_18 (by decide) ?_
  refine wv_iadd dX8_fitsAll_19 ?_
  rw [hf9.1 55 (by omega) (by omega) (by omega), hff2, nI_1]
  refine wv_istore_k (i := 2) dX8_fitsAll_20 rfl (by decide) ?_
  exact wv_le (by simp [wr_leq, wr_s1, wr_s2, wr_wide]) (lp (39 - f) (f + 1) _ J9 (by omega) hp9 hf9)

theorem kM_89 {J : wr_TI} {K : wr_TL} {kx : Nat → Option Int64} {i : Nat} {x : Int32} (h : kM J K kx) : kM (wr_uI J 89 i x) K kx := by
  unfold kM at h ⊢
  rw [wr_uI_ne (by omega), wr_uI_ne (by omega)]
  exact h
theorem frK8_89 {I J : wr_TI} {L K : wr_TL} {i : Nat} {x : Int32} (h : frK8 I L J K) : frK8 I L (wr_uI J 89 i x) K := ⟨⟨fun a b1 b2 => by rw [wr_uI_ne (by omega)]; exact h.1.1 a b1 b2, fun k hk => by rw [wr_uI_ne (by omega)]; exact h.1.2 k hk⟩, h.2⟩
theorem frK8_89' {r : Nat} {J J9 : wr_TI} (h : frP r J J9) : J9 89 = J 89 := h.1 89 (by omega) (by omega) (by omega)
set_option maxHeartbeats 4000000 in
set_option maxRecDepth 100000 in
theorem x_seek {l : Launch} {I : wr_TI} {L : wr_TL} {R : wr_TR} (hR : wr_RC R) (g : RG) (ok : gOK g) (hg : mgV I g) (m : FM) (tk : Int32) (hM : mfV I L m) (hN : fmT m) : wr_P l 4 mX8_seekFits [.ref 55, .int tk] SH I L R (fun v s' I' L' R' => v = some (.int (nI (cn (fun a => fitS g a (kn m tk)) 324))) ∧ s' = SH ∧ R' = R ∧ kM I' L' (kn m tk) ∧ (∀ a, a < 324 → I' 89 a = bI (fitS g a (kn m tk))) ∧ frK8 I L I' L') := by
  obtain ⟨k6, k40, -⟩ := id ok
  have hgood : ∀ a, fitS g a (kn m tk) = (gd g (kn m tk) 0 && fit2 g a (kn m tk)) := fun a => fit_good k40
  have lp : ∀ (K : wr_TL) (k i : Nat) (J : wr_TI), i + k = 324 → kM J K (kn m tk) → (∀ b, b < i → J 89 b = bI (fitS g b (kn m tk))) → frK8 I L J K → wr_V l 4 mX8_seekFits 11 [some (.ref 55), none, some (.int (bI (gd g (kn m tk) 0))), some (.int (nI (cn (fun a => fitS g a (kn m tk)) i))), some (.int (nI i))] [] SH J K R 0 0 (fun v s' I' L' R' => v = some (.int (nI (cn (fun a => fitS g a (kn m tk)) 324))) ∧ s' = SH ∧ R' = R ∧ kM I' L' (kn m tk) ∧ (∀ a, a < 324 → I' 89 a = bI (fitS g a (kn m tk))) ∧ frK8 I L I' L') := by
    intro K k
    induction k with
    | zero =>
      intro i J hi hk h1 hf
      obtain rfl : i = 324 := by omega
      refine wv_iload dX8_seekFits_11 rfl ?_
      refine wv_sipush (v := 324) dX8_seekFits_13 (by decide) ?_
      refine wv_icmp_ge (tgt := 75) dX8_seekFits_16 (by decide) (fun h16 => ?_) (fun h16 => absurd (nI_le (a := 324) (by omega) (by omega)) h16)
      refine wv_iload_n dX8_seekFits_75 rfl ?_
      refine wv_iret rfl dX8_seekFits_76 ?_
      exact ⟨rfl, rfl, rfl, hk, h1, hf⟩
    | succ k ih =>
      intro i J hi hk h1 hf
      have tl : ∀ (J1 : wr_TI), kM J1 K (kn m tk) → (∀ b, b < i → J1 89 b = bI (fitS g b (kn m tk))) → frK8 I L J1 K → wr_V l 4 mX8_seekFits 50 [some (.ref 55), none, some (.int (bI (gd g (kn m tk) 0))), some (.int (nI (cn (fun a => fitS g a (kn m tk)) i))), some (.int (nI i))] [.int (bI (fitS g i (kn m tk))), .int (nI i), .ref 89] SH J1 K R 0 0 (fun v s' I' L' R' => v = some (.int (nI (cn (fun a => fitS g a (kn m tk)) 324))) ∧ s' = SH ∧ R' = R ∧ kM I' L' (kn m tk) ∧ (∀ a, a < 324 → I' 89 a = bI (fitS g a (kn m tk))) ∧ frK8 I L I' L') := by
        intro J1 hk1 h11 hf1
        have ej : wr_uI J1 89 i (vp_nar .boolean (bI (fitS g i (kn m tk)))) 89 i = bI (fitS g i (kn m tk)) := by simp [wr_uI, narB]
        refine wv_zastN dX8_seekFits_50 (by first | assumption | rfl) (by omega) (by decide) ?_
        refine wv_iload_n dX8_seekFits_51 rfl ?_
        refine wv_aload_n dX8_seekFits_52 rfl ?_
        refine wv_getR fX8_118 dX8_seekFits_53 rfl (by first | assumption | rfl) (by first | exact hR _ _ _ rfl | assumption) ?_
        refine wv_iload dX8_seekFits_56 rfl ?_
        refine wv_zaldN dX8_seekFits_58 (by first | assumption | rfl) (by omega) (by decide) ?_
        refine wv_if_eq (tgt := 66) dX8_seekFits_59 (by decide) (fun h59 => ?_) (fun h59 => ?_)
        · rw [ej, bI_0] at h59
          have e : nI (cn (fun a => fitS g a (kn m tk)) i) + 0 = nI (cn (fun a => fitS g a (kn m tk)) (i + 1)) := by simp [cn, h59]
          refine wv_iconst (v := 0) dX8_seekFits_66 (by decide) ?_
          refine wv_iadd dX8_seekFits_67 ?_
          rw [e]
          refine wv_istore_k (i := 3) dX8_seekFits_68 rfl (by decide) ?_
          refine wv_iinc (v := nI (i + 1)) dX8_seekFits_69 rfl (nI_1 (i)) (by decide) ?_
          refine wv_goto (tgt := 11) dX8_seekFits_72 (by decide) ?_
          refine wv_le (by simp [wr_leq, wr_s1, wr_s2, wr_wide]) (ih (i + 1) _ (by omega) (kM_89 hk1) (fun b hb => ?_) (frK8_89 hf1))
          by_cases hbi : b = i
          · subst hbi; exact ej
          · simp only [wr_uI, hbi, and_false, if_false]; exact h11 b (by omega)
        · rw [ej, bI_0] at h59
          have e : nI (cn (fun a => fitS g a (kn m tk)) i) + 1 = nI (cn (fun a => fitS g a (kn m tk)) (i + 1)) := by simp at h59; simp [cn, h59]; exact nI_1 _
          refine wv_iconst (v := 1) dX8_seekFits_62 (by decide) ?_
          refine wv_goto (tgt := 67) dX8_seekFits_63 (by decide) ?_
          refine wv_iadd dX8_seekFits_67 ?_
          rw [e]
          refine wv_istore_k (i := 3) dX8_seekFits_68 rfl (by decide) ?_
          refine wv_iinc (v := nI (i + 1)) dX8_seekFits_69 rfl (nI_1 (i)) (by decide) ?_
          refine wv_goto (tgt := 11) dX8_seekFits_72 (by decide) ?_
          refine wv_le (by simp [wr_leq, wr_s1, wr_s2, wr_wide]) (ih (i + 1) _ (by omega) (kM_89 hk1) (fun b hb => ?_) (frK8_89 hf1))
          by_cases hbi : b = i
          · subst hbi; exact ej
          · simp only [wr_uI, hbi, and_false, if_false]; exact h11 b (by omega)
      have hgi := hgood i
      have hfr := hk.2.2
      refine wv_iload dX8_seekFits_11 rfl ?_
      refine wv_sipush (v := 324) dX8_seekFits_13 (by decide) ?_
      refine wv_icmp_ge (tgt := 75) dX8_seekFits_16 (by decide) (fun h16 => absurd h16 (nI_ge (b := 324) (by omega) (by omega))) (fun h16 => ?_)
      refine wv_aload_n dX8_seekFits_19 rfl ?_
      refine wv_getR fX8_118 dX8_seekFits_20 rfl (by first | assumption | rfl) (by first | exact hR _ _ _ rfl | assumption) ?_
      refine wv_iload dX8_seekFits_23 rfl ?_
      refine wv_iload_n dX8_seekFits_25 rfl ?_
      refine wv_if_eq (tgt := 49) dX8_seekFits_26 (by decide) (fun h26 => ?_) (fun h26 => ?_)
      · rw [bI_0] at h26
        have e : (0 : Int32) = bI (fitS g i (kn m tk)) := by rw [hgi, h26]; rfl
        refine wv_iconst (v := 0) dX8_seekFits_49 (by decide) ?_
        first
          | (have _ := hf9
             rw [e]
             exact wv_le (by simp [wr_leq, wr_s1, wr_s2, wr_wide]) (tl J9 (kM_P hf9 hk) (fun b hb => by rw [frK8_89' hf9]; exact h1 b hb) (frK8_tr hf (frK8_P hf9))))
          | (rw [e]
             exact wv_le (by simp [wr_leq, wr_s1, wr_s2, wr_wide]) (tl J hk h1 hf))
      · rw [bI_0] at h26
        have h26b : gd g (kn m tk) 0 = true := by simpa using h26
        rw [h26b, Bool.true_and] at hgi
        refine wv_aload_n dX8_seekFits_29 rfl ?_
        refine wv_getI fX8_477 dX8_seekFits_30 rfl (by first | assumption | rfl) ?_
        refine wv_if_lt (tgt := 45) dX8_seekFits_33 (by decide) (fun h33 => ?_) (fun h33 => ?_)
        · rw [hfr] at h33
          have hno : fst (fun x => (kn m tk x).isSome) 40 = none := by
            cases hz : fst (fun x => (kn m tk x).isSome) 40 with
            | none => rfl
            | some f => rw [hz] at h33; exact absurd h33 (nI_pos (by have := fst_lt hz; omega))
          have e : (1 : Int32) = bI (fitS g i (kn m tk)) := by rw [hgi]; unfold fit2; rw [hno]; rfl
          refine wv_iconst (v := 1) dX8_seekFits_45 (by decide) ?_
          refine wv_goto (tgt := 50) dX8_seekFits_46 (by decide) ?_
          first
            | (have _ := hf9
               rw [e]
               exact wv_le (by simp [wr_leq, wr_s1, wr_s2, wr_wide]) (tl J9 (kM_P hf9 hk) (fun b hb => by rw [frK8_89' hf9]; exact h1 b hb) (frK8_tr hf (frK8_P hf9))))
            | (rw [e]
               exact wv_le (by simp [wr_leq, wr_s1, wr_s2, wr_wide]) (tl J hk h1 hf))
        · rw [hfr] at h33
          obtain ⟨f, hff⟩ : ∃ f, fst (fun x => (kn m tk x).isSome) 40 = some f := by
            cases hz : fst (fun x => (kn m tk x).isSome) 40 with
            | none => rw [hz] at h33; exact absurd (show oI none < 0 by decide) h33
            | some f => exact ⟨f, rfl⟩
          obtain ⟨u, hu⟩ : ∃ u, kn m tk f = some u := by
            have := (fst_some hff).1
            cases hz : kn m tk f with
            | none => rw [hz] at this; simp at this
            | some u => exact ⟨u, rfl⟩
          have hf2 : fit2 g i (kn m tk) = flG g i (kn m tk) (39 - f) (f + 1) (ps0 g (lb u)) := by unfold fit2; rw [hff]; simp only [hu]
          refine wv_aload_n dX8_seekFits_36 rfl ?_
          refine wv_iload dX8_seekFits_37 rfl ?_
          refine wv_v1 oX8_fitsAll kX8_494 dX8_seekFits_39 (by omega) (by first | assumption | rfl) ⟨rfl, by decide⟩ (Nat.le_of_ble_eq_true rfl) (Nat.le_of_ble_eq_true rfl) (x_fitsAll hR g ok (frK8_g hf hg) (kn m tk) hk f u hff hu i (by omega)) (fun v9 s9 J9 L9 R9 h9 => ?_)
          obtain ⟨rfl, rfl, rfl, rfl, hf9⟩ := h9
          refine wv_if_eq (tgt := 49) dX8_seekFits_42 (by decide) (fun h42 => ?_) (fun h42 => ?_)
          · rw [bI_0] at h42
            have e : (0 : Int32) = bI (fitS g i (kn m tk)) := by rw [hgi, hf2, h42]; rfl
            refine wv_iconst (v := 0) dX8_seekFits_49 (by decide) ?_
            first
              | (have _ := hf9
                 rw [e]
                 exact wv_le (by simp [wr_leq, wr_s1, wr_s2, wr_wide]) (tl J9 (kM_P hf9 hk) (fun b hb => by rw [frK8_89' hf9]; exact h1 b hb) (frK8_tr hf (frK8_P hf9))))
              | (rw [e]
                 exact wv_le (by simp [wr_leq, wr_s1, wr_s2, wr_wide]) (tl J hk h1 hf))
          · rw [bI_0] at h42
            have e : (1 : Int32) = bI (fitS g i (kn m tk)) := by rw [hgi, hf2]; simp at h42; rw [h42]; rfl
            refine wv_iconst (v := 1) dX8_seekFits_45 (by decide) ?_
            refine wv_goto (tgt := 50) dX8_seekFits_46 (by decide) ?_
            first
              | (have _ := hf9
                 rw [e]
                 exact wv_le (by simp [wr_leq, wr_s1, wr_s2, wr_wide]) (tl J9 (kM_P hf9 hk) (fun b hb => by rw [frK8_89' hf9]; exact h1 b hb) (frK8_tr hf (frK8_P hf9))))
              | (rw [e]
                 exact wv_le (by simp [wr_leq, wr_s1, wr_s2, wr_wide]) (tl J hk h1 hf))
  refine wv_pad 3 ?_
  show wr_V l 4 mX8_seekFits 0 [some (.ref 55), some (.int tk), none, none, none] [] SH I L R 0 0 _
  refine wv_aload_n dX8_seekFits_0 rfl ?_
  refine wv_iload_n dX8_seekFits_1 rfl ?_
  refine wv_v1 oX8_layOut kX8_491 dX8_seekFits_2 (by omega) (by first | assumption | rfl) ⟨rfl, by decide⟩ (Nat.le_of_ble_eq_true rfl) (Nat.le_of_ble_eq_true rfl) (x_layOut hR g ok hg m tk hM hN) (fun v9 s9 J9 L9 R9 h9 => ?_)
  obtain ⟨rfl, rfl, rfl, hk9, hf9⟩ := h9
  refine wv_istore_k (i := 2) dX8_seekFits_5 rfl (by decide) ?_
  refine wv_iconst (v := nI (cn (fun a => fitS g a (kn m tk)) 0)) dX8_seekFits_6 rfl ?_
  refine wv_istore_k (i := 3) dX8_seekFits_7 rfl (by decide) ?_
  refine wv_iconst (v := nI 0) dX8_seekFits_8 rfl ?_
  refine wv_istore dX8_seekFits_9 (by decide) ?_
  exact wv_le (by simp [wr_leq, wr_s1, wr_s2, wr_wide]) (lp L9 324 0 J9 (by omega) hk9 (fun b hb => by omega) hf9)

set_option maxHeartbeats 4000000 in
set_option maxRecDepth 100000 in
theorem xW_fits {l : Launch} {I : wr_TI} {L : wr_TL} {R : wr_TR} (hR : wr_RC R) (g : RG) (ok : gOK g) (hg : mgV I g) (m : FM) (tk : Int32) (hM : mfV I L m) (hN : fmT m) : wr_P l 5 mX8_fits [.ref 55, .int tk] SH I L R (fun v s' I' L' R' => v = some (.int (nI (cn (fun a => fitS g a (kn m tk)) 324))) ∧ s' = SH ∧ R' = R ∧ frK8 I L I' L') := by
  refine wv_pad 0 ?_
  show wr_V l 5 mX8_fits 0 [some (.ref 55), some (.int tk)] [] SH I L R 0 0 _
  refine wv_aload_n dX8_fits_0 rfl ?_
  refine wv_iload_n dX8_fits_1 rfl ?_
  refine wv_v1 oX8_seekFits kX8_497 dX8_fits_2 (by omega) (by first | assumption | rfl) ⟨rfl, by decide⟩ (Nat.le_of_ble_eq_true rfl) (Nat.le_of_ble_eq_true rfl) (x_seek hR g ok hg m tk hM hN) (fun v9 s9 J9 L9 R9 h9 => ?_)
  obtain ⟨rfl, rfl, rfl, hk9, hi9, hf9⟩ := h9
  refine wv_iret rfl dX8_fits_5 ?_
  exact ⟨rfl, rfl, rfl, hf9⟩

theorem ftG_none {p : Nat → Bool} {i : Nat} : ∀ r a h, h + cn (fun j => p (a + j)) r ≤ i → ftG p i r a h = -1 := by
  intro r
  induction r with
  | zero => intro a h _; rfl
  | succ r ih =>
    intro a h hc
    have e : cn (fun j => p (a + j)) (r + 1) = (if p a = true then 1 else 0) + cn (fun j => p (a + 1 + j)) r := by
      rw [show r + 1 = 1 + r by omega, cn_add]
      congr 1
      · simp [cn]
      · exact cn_congr fun j _ => by congr 1; omega
    simp only [ftG]
    by_cases hp : p a = true
    · rw [if_pos hp] at e ⊢
      rw [if_neg (by omega)]
      exact ih _ _ (by omega)
    · rw [if_neg hp] at e ⊢
      exact ih _ _ (by omega)
set_option maxHeartbeats 4000000 in
set_option maxRecDepth 100000 in
theorem xW_fit {l : Launch} {I : wr_TI} {L : wr_TL} {R : wr_TR} (hR : wr_RC R) (g : RG) (ok : gOK g) (hg : mgV I g) (m : FM) (tk : Int32) (hM : mfV I L m) (hN : fmT m) (x : Int32) : wr_P l 5 mX8_fit [.ref 55, .int x, .int tk] SH I L R (fun v s' I' L' R' => v = some (.int (aFit (fun a => fitS g a (kn m tk)) x)) ∧ s' = SH ∧ R' = R ∧ frK8 I L I' L') := by
  generalize hp : (fun a => fitS g a (kn m tk)) = p
  have lp : ∀ (i : Nat), i < 324 → ∀ (K : wr_TL) (J : wr_TI), (∀ b, b < 324 → J 89 b = bI (p b)) → ∀ (r a h lf : Nat), a + r = 324 → h + lf = i → i < h + cn (fun j => p (a + j)) r → wr_V l 5 mX8_fit 20 [some (.ref 55), none, none, some (.int (nI lf)), some (.int (nI a))] [] SH J K R 0 0 (fun v s' I' L' R' => v = some (.int (ftG p i r a h)) ∧ s' = SH ∧ I' = J ∧ L' = K ∧ R' = R) := by
    intro i hi K J hJ r
    induction r with
    | zero => intro a h lf h1 h2 h3; simp only [cn] at h3; omega
    | succ r ih =>
      intro a h lf h1 h2 h3
      have ej := hJ a (by omega)
      have e : cn (fun j => p (a + j)) (r + 1) = (if p a = true then 1 else 0) + cn (fun j => p (a + 1 + j)) r := by
        rw [show r + 1 = 1 + r by omega, cn_add]
        congr 1
        · simp [cn]
        · exact cn_congr fun j _ => by congr 1; omega
      refine wv_aload_n dX8_fit_20 rfl ?_
      refine wv_getR fX8_118 dX8_fit_21 rfl (by first | assumption | rfl) (by first | exact hR _ _ _ rfl | assumption) ?_
      refine wv_iload dX8_fit_24 rfl ?_
      refine wv_zaldN dX8_fit_26 (by first | assumption | rfl) (by omega) (by decide) ?_
      refine wv_if_eq (tgt := 34) dX8_fit_27 (by decide) (fun h27 => ?_) (fun h27 => ?_)
      · rw [ej, bI_0] at h27
        refine wv_iload_n dX8_fit_34 rfl ?_
        refine wv_aload_n dX8_fit_35 rfl ?_
        refine wv_getR fX8_118 dX8_fit_36 rfl (by first | assumption | rfl) (by first | exact hR _ _ _ rfl | assumption) ?_
        refine wv_iload dX8_fit_39 rfl ?_
        refine wv_zaldN dX8_fit_41 (by first | assumption | rfl) (by omega) (by decide) ?_
        refine wv_if_eq (tgt := 49) dX8_fit_42 (by decide) (fun h42 => ?_) (fun h42 => ?_)
        · rw [ej, bI_0] at h42
          refine wv_iconst (v := 0) dX8_fit_49 (by decide) ?_
          refine wv_isub dX8_fit_50 ?_
          first | (have _ := h42b; rw [show nI lf - 1 = nI (lf - 1) from pk_sub (b := 1) (by first | omega | (exfalso; simp [h27] at h42b))]) | rw [Int32.sub_zero]
          refine wv_istore_k (i := 3) dX8_fit_51 rfl (by decide) ?_
          refine wv_iinc (v := nI (a + 1)) dX8_fit_52 rfl (nI_1 (a)) (by decide) ?_
          refine wv_goto (tgt := 20) dX8_fit_55 (by decide) ?_
          simp only [ftG]
          first
            | (have _ := h42b
               rw [if_pos h42b] at e ⊢
               rw [if_neg (by first | omega | (exfalso; simp [h27] at h42b))]
               exact wv_le (by simp [wr_leq, wr_s1, wr_s2, wr_wide]) (ih (a + 1) (h + 1) (lf - 1) (by omega) (by first | omega | (exfalso; simp [h27] at h42b)) (by omega)))
            | (rw [if_neg (by simp [h42])] at e ⊢
               exact wv_le (by simp [wr_leq, wr_s1, wr_s2, wr_wide]) (ih (a + 1) h lf (by omega) h2 (by omega)))
        · rw [ej, bI_0] at h42
          have h42b : p a = true := by simpa using h42
          refine wv_iconst (v := 1) dX8_fit_45 (by decide) ?_
          refine wv_goto (tgt := 50) dX8_fit_46 (by decide) ?_
          refine wv_isub dX8_fit_50 ?_
          first | (have _ := h42b; rw [show nI lf - 1 = nI (lf - 1) from pk_sub (b := 1) (by first | omega | (exfalso; simp [h27] at h42b))]) | rw [Int32.sub_zero]
          refine wv_istore_k (i := 3) dX8_fit_51 rfl (by decide) ?_
          refine wv_iinc (v := nI (a + 1)) dX8_fit_52 rfl (nI_1 (a)) (by decide) ?_
          refine wv_goto (tgt := 20) dX8_fit_55 (by decide) ?_
          simp only [ftG]
          first
            | (have _ := h42b
               rw [if_pos h42b] at e ⊢
               rw [if_neg (by first | omega | (exfalso; simp [h27] at h42b))]
               exact wv_le (by simp [wr_leq, wr_s1, wr_s2, wr_wide]) (ih (a + 1) (h + 1) (lf - 1) (by omega) (by first | omega | (exfalso; simp [h27] at h42b)) (by omega)))
            | (rw [if_neg (by simp [h42])] at e ⊢
               exact wv_le (by simp [wr_leq, wr_s1, wr_s2, wr_wide]) (ih (a + 1) h lf (by omega) h2 (by omega)))
      · rw [ej, bI_0] at h27
        have h27b : p a = true := by simpa using h27
        refine wv_iload_n dX8_fit_30 rfl ?_
        refine wv_if_le (tgt := 58) dX8_fit_31 (by decide) (fun h31 => ?_) (fun h31 => ?_)
        · have hl0 : lf = 0 := by have := (nI_leI (b := 0) (by omega) (by omega)).mp h31; omega
          refine wv_iload dX8_fit_58 rfl ?_
          refine wv_iret rfl dX8_fit_60 ?_
          refine ⟨?_, rfl, rfl, rfl, rfl⟩
          simp only [ftG]
          rw [if_pos h27b, if_pos (by omega)]
        · have hl0 : ¬ lf = 0 := fun q => h31 (by rw [q]; exact Int32.le_refl _)
          refine wv_iload_n dX8_fit_34 rfl ?_
          refine wv_aload_n dX8_fit_35 rfl ?_
          refine wv_getR fX8_118 dX8_fit_36 rfl (by first | assumption | rfl) (by first | exact hR _ _ _ rfl | assumption) ?_
          refine wv_iload dX8_fit_39 rfl ?_
          refine wv_zaldN dX8_fit_41 (by first | assumption | rfl) (by omega) (by decide) ?_
          refine wv_if_eq (tgt := 49) dX8_fit_42 (by decide) (fun h42 => ?_) (fun h42 => ?_)
          · rw [ej, bI_0] at h42
            refine wv_iconst (v := 0) dX8_fit_49 (by decide) ?_
            refine wv_isub dX8_fit_50 ?_
            first | (have _ := h42b; rw [show nI lf - 1 = nI (lf - 1) from pk_sub (b := 1) (by first | omega | (exfalso; simp [h27] at h42b))]) | rw [Int32.sub_zero]
            refine wv_istore_k (i := 3) dX8_fit_51 rfl (by decide) ?_
            refine wv_iinc (v := nI (a + 1)) dX8_fit_52 rfl (nI_1 (a)) (by decide) ?_
            refine wv_goto (tgt := 20) dX8_fit_55 (by decide) ?_
            simp only [ftG]
            first
              | (have _ := h42b
                 rw [if_pos h42b] at e ⊢
                 rw [if_neg (by first | omega | (exfalso; simp [h27] at h42b))]
                 exact wv_le (by simp [wr_leq, wr_s1, wr_s2, wr_wide]) (ih (a + 1) (h + 1) (lf - 1) (by omega) (by first | omega | (exfalso; simp [h27] at h42b)) (by omega)))
              | (rw [if_neg (by simp [h42])] at e ⊢
                 exact wv_le (by simp [wr_leq, wr_s1, wr_s2, wr_wide]) (ih (a + 1) h lf (by omega) h2 (by omega)))
          · rw [ej, bI_0] at h42
            have h42b : p a = true := by simpa using h42
            refine wv_iconst (v := 1) dX8_fit_45 (by decide) ?_
            refine wv_goto (tgt := 50) dX8_fit_46 (by decide) ?_
            refine wv_isub dX8_fit_50 ?_
            first | (have _ := h42b; rw [show nI lf - 1 = nI (lf - 1) from pk_sub (b := 1) (by first | omega | (exfalso; simp [h27] at h42b))]) | rw [Int32.sub_zero]
            refine wv_istore_k (i := 3) dX8_fit_51 rfl (by decide) ?_
            refine wv_iinc (v := nI (a + 1)) dX8_fit_52 rfl (nI_1 (a)) (by decide) ?_
            refine wv_goto (tgt := 20) dX8_fit_55 (by decide) ?_
            simp only [ftG]
            first
              | (have _ := h42b
                 rw [if_pos h42b] at e ⊢
                 rw [if_neg (by first | omega | (exfalso; simp [h27] at h42b))]
                 exact wv_le (by simp [wr_leq, wr_s1, wr_s2, wr_wide]) (ih (a + 1) (h + 1) (lf - 1) (by omega) (by first | omega | (exfalso; simp [h27] at h42b)) (by omega)))
              | (rw [if_neg (by simp [h42])] at e ⊢
                 exact wv_le (by simp [wr_leq, wr_s1, wr_s2, wr_wide]) (ih (a + 1) h lf (by omega) h2 (by omega)))
  refine wv_pad 2 ?_
  show wr_V l 5 mX8_fit 0 [some (.ref 55), some (.int x), some (.int tk), none, none] [] SH I L R 0 0 _
  refine wv_iload_n dX8_fit_0 rfl ?_
  refine wv_if_lt (tgt := 13) dX8_fit_1 (by decide) (fun h1 => ?_) (fun h1 => ?_)
  · refine wv_iconst (v := (-1)) dX8_fit_13 (by decide) ?_
    refine wv_iret rfl dX8_fit_14 ?_
    first
      | (refine ⟨?_, rfl, rfl, frK8_rf⟩
         unfold aFit
         rw [if_neg (fun q => absurd (Int32.not_lt.mpr q.1) (fun z => z h1))])
      | (refine ⟨?_, rfl, rfl, hf9⟩
         unfold aFit
         rw [tN_nI hi]
         have hz : ftG p i 324 0 0 = -1 := ftG_none 324 0 0 (by simp only [Nat.zero_add]; exact Nat.le_of_not_lt h10)
         rw [hz]
         simp)
  · obtain ⟨i, hi, rfl⟩ := nI_of h1
    refine wv_iload_n dX8_fit_4 rfl ?_
    refine wv_aload_n dX8_fit_5 rfl ?_
    refine wv_iload_n dX8_fit_6 rfl ?_
    refine wv_v1 oX8_seekFits kX8_497 dX8_fit_7 (by omega) (by first | assumption | rfl) ⟨rfl, by decide⟩ (Nat.le_of_ble_eq_true rfl) (Nat.le_of_ble_eq_true rfl) (x_seek hR g ok hg m tk hM hN) (fun v9 s9 J9 L9 R9 h9 => ?_)
    obtain ⟨rfl, rfl, rfl, hk9, hi9, hf9⟩ := h9
    rw [hp]
    refine wv_icmp_lt (tgt := 15) dX8_fit_10 (by decide) (fun h10 => ?_) (fun h10 => ?_)
    · have hcl := cn_le p 324
      rw [nI_ltI hi (by omega)] at h10
      refine wv_iload_n dX8_fit_15 rfl ?_
      refine wv_istore_k (i := 3) dX8_fit_16 rfl (by decide) ?_
      refine wv_iconst (v := nI 0) dX8_fit_17 rfl ?_
      refine wv_istore dX8_fit_18 (by decide) ?_
      refine wr_V.imp (wv_le (by simp [wr_leq, wr_s1, wr_s2, wr_wide]) (lp i (by omega) L9 J9 (fun b hb => by rw [hi9 b hb, ← hp]) 324 0 0 i (by omega) (by omega) (by simp only [Nat.zero_add]; omega))) (fun v s' I' L' R' h => ?_)
      obtain ⟨q1, q2, q3, q4, q5⟩ := h
      refine ⟨q1.trans ?_, q2, q5, by rw [q3, q4]; exact hf9⟩
      unfold aFit
      rw [tN_nI hi, if_pos ⟨nI_pos' hi, nI_lt (b := 324) (by omega) (by omega)⟩]
    · have hcl := cn_le p 324
      rw [nI_ltI hi (by omega)] at h10
      refine wv_iconst (v := (-1)) dX8_fit_13 (by decide) ?_
      refine wv_iret rfl dX8_fit_14 ?_
      first
        | (refine ⟨?_, rfl, rfl, frK8_rf⟩
           unfold aFit
           rw [if_neg (fun q => absurd (Int32.not_lt.mpr q.1) (fun z => z h1))])
        | (refine ⟨?_, rfl, rfl, hf9⟩
           unfold aFit
           rw [tN_nI hi]
           have hz : ftG p i 324 0 0 = -1 := ftG_none 324 0 0 (by simp only [Nat.zero_add]; exact Nat.le_of_not_lt h10)
           rw [hz]
           simp)

