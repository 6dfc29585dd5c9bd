/-! who would rise -/
theorem evl_congr {c lk lk' : Nat → Int32} (hl : ∀ j, j < 7 → lk j = lk' j) : ∀ (k i h : Nat) (S : (Nat → Int32) × Nat), wfl c k i h → evl c lk k i S = evl c lk' k i S := by
  intro k
  induction k with
  | zero => intro i h S _; rfl
  | succ k ih =>
    intro i h S hw
    obtain ⟨q, hq, hc⟩ := hw
    have e : ev1 (c i) lk S = ev1 (c i) lk' S := by
      rw [hq]
      unfold ev1
      rcases hc with ⟨c1, -, -⟩ | ⟨c1, c2, -, -⟩ | ⟨c1, -, -⟩ | ⟨c1, c2, -, -⟩
      · rw [if_pos (show nI q < 10000 from nI_lt (b := 10000) (by omega) (by omega)), if_pos (show nI q < 10000 from nI_lt (b := 10000) (by omega) (by omega))]
      · rw [show (10000 : Int32) = nI 10000 from rfl, pk_sub (by omega), nI_clamp (by omega), hl _ (by omega)]
      · subst c1; rw [if_neg (show ¬ nI 20000 < 20000 by decide), if_neg (show ¬ nI 20000 < 20000 by decide)]
      · rw [if_neg (show ¬ nI q < 20000 from nI_nlt (b := 20000) (by omega) (by omega)), if_neg (show ¬ nI q < 20000 from nI_nlt (b := 20000) (by omega) (by omega))]
    simp only [evl]
    rw [e]
    rcases hc with ⟨-, -, c3⟩ | ⟨-, -, -, c3⟩ | ⟨-, -, c3⟩ | ⟨-, -, -, c3⟩ <;> exact ih _ _ _ c3
theorem val_congr {c lk lk' : Nat → Int32} {len : Nat} (hw : wfl c len 0 0) (hl : ∀ j, j < 7 → lk j = lk' j) : val c len lk = val c len lk' := by
  unfold val
  rw [evl_congr hl len 0 0 _ hw]
theorem sL_congr {f f' : Nat → Bool} {n s m : Nat} (hn : 0 < n) (h : ∀ u, u < n → f u = f' u) : sL f n s m = sL f' n s m := cn_congr fun k _ => h _ (Nat.mod_lt _ hn)
theorem sR_congr {f f' : Nat → Bool} {n s m : Nat} (hn : 0 < n) (h : ∀ u, u < n → f u = f' u) : sR f n s m = sR f' n s m := cn_congr fun k _ => h _ (Nat.mod_lt _ hn)
theorem crV_st {I : wr_TI} {L : wr_TL} {c : Nat} {g : RG} {S : SS} (h : crV I L c g S) {s : Nat} (hs : s < 40) : isU (S.1 s) = isU (I (c + 1) s) ∧ decide (S.1 s = 1) = decide (I (c + 1) s = 1) := by
  obtain ⟨h1, h2⟩ := h.1 s hs
  cases hg : gG g s with
  | true =>
    obtain ⟨e1, e2⟩ := h1 hg
    rw [e1, e2]
    exact ⟨by decide, by decide⟩
  | false =>
    rw [(h2 hg).1]
    exact ⟨rfl, rfl⟩
theorem crV_f1 {I : wr_TI} {L : wr_TL} {c : Nat} {g : RG} {S : SS} (h : crV I L c g S) {s : Nat} (hs : s < 40) : lb (L c 5) s = f1 S s := by
  rw [h.2.2.2.2.2.2 s (by omega)]
  simp only [hs, decide_true, Bool.true_and, f1]
  exact (crV_st h hs).2.symm
theorem crV_fx {I : wr_TI} {L : wr_TL} {c : Nat} {g : RG} {S : SS} (h : crV I L c g S) {s : Nat} (hs : gN g ≤ s) : lb (L c 5) s = false := by
  by_cases h64 : s < 64
  · rw [h.2.2.2.2.2.2 s h64]
    by_cases h40 : s < 40
    · rw [h.2.1 s hs h40]; simp
    · simp [h40]
  · exact lb_big (by omega)
theorem crV_up {I : wr_TI} {L : wr_TL} {c : Nat} {g : RG} {S : SS} (h : crV I L c g S) (hn : gN g ≤ 40) : cn (lb (L c 4)) 64 = upn g S := by
  rw [cn_cut (m := gN g) (by omega) (fun i h1 h2 => by
    rw [h.2.2.2.2.2.1 i h2]
    by_cases h40 : i < 40
    · rw [h.2.1 i h1 h40]; simp [isU]
    · simp [h40])]
  unfold upn
  apply cn_congr
  intro i hi
  rw [h.2.2.2.2.2.1 i (by omega), (crV_st h (by omega)).1]
  have : i < 40 := by omega
  simp [this]
set_option maxHeartbeats 4000000 in
set_option maxRecDepth 100000 in
theorem cC_willing {l : Launch} {I : wr_TI} {L : wr_TL} {R : wr_TR} (c t : Nat) (g : RG) (S : SS) (dear : Int64) (dr : Nat → Bool) (hc : isC R c) (hg : isG R t) (hV : rgV I L t g) (hS : crV I L c g S) (hdr : ∀ s, lb dear s = dr s) : wr_P l 3 mX0_willing [.ref c, .ref t, .long dear] SH I L R (fun v s' I' L' R' => v = some (.long (orb 0 (wnt g dr S) (gN g))) ∧ s' = SH ∧ L' = L ∧ R' = R ∧ ∀ a, a ≠ c + 4 → a ≠ t + 3 → I' a = I a) := by
  have hc' := hc
  have hg' := hg
  have hS' := hS
  obtain ⟨z0, z1, c0, c1, c2, c3, c4, r0, r1, r2, r3⟩ := hc
  obtain ⟨y0, g0, g1, g2, g3, g4, g5, g6, p0, p1, p2, p3, p4, p5⟩ := hg
  obtain ⟨v0, v1, v2, v3, v4, v5, v6, v7, v8, v9, v10, v11, v12, v13, v14, v15, v16, v17, v18, v19, v20, v21, v22, v23⟩ := hV
  obtain ⟨s0, s1, s2, s3, s4, s5, s6⟩ := hS
  have lp : ∀ (k i : Nat) (J : wr_TI), i + k = gN g → (∀ a, a ≠ c + 4 → a ≠ t + 3 → J a = I a) → J (c + 4) 2 = slk g (S.2.2.1 + 1) → J (c + 4) 3 = S.2.2.2 → J (c + 4) 5 = nI (upn g S) → J (c + 4) 6 = S.2.2.1 + 1 → wr_V l 3 mX0_willing 66 [some (.ref c), some (.ref t), some (.long dear), none, some (.long (L t 6 ||| dear)), none, some (.long (orb 0 (wnt g dr S) i)), none, some (.int (nI i))] [] SH J L R 0 0 (fun v s' I' L' R' => v = some (.long (orb 0 (wnt g dr S) (gN g))) ∧ s' = SH ∧ L' = L ∧ R' = R ∧ ∀ a, a ≠ c + 4 → a ≠ t + 3 → I' a = I a) := by
    intro k
    induction k with
    | zero =>
      intro i J hi hf hj2 hj3 hj5 hj6
      obtain rfl : i = gN g := by omega
      refine wv_iload dX0_willing_66 rfl ?_
      refine wv_bipush (v := 40) dX0_willing_68 (by decide) ?_
      refine wv_icmp_ge (tgt := 151) dX0_willing_70 (by decide) (fun h70 => ?_) (fun h70 => ?_)
      · refine wv_lload dX0_willing_151 rfl ?_
        refine wv_lret rfl dX0_willing_153 ?_
        exact ⟨rfl, rfl, rfl, rfl, hf⟩
      · refine wv_iload dX0_willing_73 rfl ?_
        refine wv_aload_n dX0_willing_75 rfl ?_
        refine wv_getI fX0_62 dX0_willing_76 rfl (by first | assumption | rfl) ?_
        refine wv_icmp_ge (tgt := 151) dX0_willing_79 (by decide) (fun h79 => ?_) (fun h79 => absurd (by rw [hf t (by omega) (by omega), v0]; exact nI_le (Nat.le_refl _) (by omega)) h79)
        refine wv_lload dX0_willing_151 rfl ?_
        refine wv_lret rfl dX0_willing_153 ?_
        exact ⟨rfl, rfl, rfl, rfl, hf⟩
    | succ k ih =>
      intro i J hi hf hj2 hj3 hj5 hj6
      have hst : J (c + 1) i = I (c + 1) i := by rw [hf (c + 1) (by omega) (by omega)]
      have hro : J (c + 2) i = S.2.1 i := by rw [hf (c + 2) (by omega) (by omega), s2 i (by omega)]
      have hJt : J t 5 = nI (gN g) := by rw [hf t (by omega) (by omega), v0]
      have hfx : lb (L t 6 ||| dear) i = (gG g i || dr i) := by rw [lb_or, v3, hdr]
      obtain ⟨hs0a, hs0b⟩ := s0 i (by omega)
      refine wv_iload dX0_willing_66 rfl ?_
      refine wv_bipush (v := 40) dX0_willing_68 (by decide) ?_
      refine wv_icmp_ge (tgt := 151) dX0_willing_70 (by decide) (fun h70 => absurd h70 (nI_ge (b := 40) (by omega) (by omega))) (fun h70 => ?_)
      refine wv_iload dX0_willing_73 rfl ?_
      refine wv_aload_n dX0_willing_75 rfl ?_
      refine wv_getI fX0_62 dX0_willing_76 rfl (by first | assumption | rfl) ?_
      refine wv_icmp_ge (tgt := 151) dX0_willing_79 (by decide) (fun h79 => absurd h79 (by rw [hJt]; exact nI_ge (by omega) (by omega))) (fun h79 => ?_)
      refine wv_aload_n dX0_willing_82 rfl ?_
      refine wv_getR fX0_9 dX0_willing_83 rfl (by first | assumption | rfl) (by first | exact hR _ _ _ rfl | assumption) ?_
      refine wv_iload dX0_willing_86 rfl ?_
      refine wv_ialdN dX0_willing_88 (by first | assumption | rfl) (by omega) (by decide) ?_
      refine wv_if_ne (tgt := 145) dX0_willing_89 (by decide) (fun h89 => ?_) (fun h89 => ?_)
      · have hwf : wnt g dr S i = false := by
          rw [hst] at h89
          unfold wnt
          cases hgi : gG g i with
          | true => rw [(hs0a hgi).1]; simp
          | false => rw [(hs0b hgi).1]; simp [h89]
        refine wv_iinc (v := nI (i + 1)) dX0_willing_145 rfl (nI_1 (i)) (by decide) ?_
        refine wv_goto (tgt := 66) dX0_willing_148 (by decide) ?_
        first
        | (have eo : orb 0 (wnt g dr S) (i + 1) = orb 0 (wnt g dr S) i ||| (1 <<< ((nI i).toInt64 &&& 63)) := by simp only [orb]; rw [if_pos hwt]
           rw [← eo]
           exact wv_le (by simp [wr_leq, wr_s1, wr_s2, wr_wide]) (ih (i + 1) J9 (by omega) hf9 (by rw [hk9 2 (by omega) (by omega)]; exact hj2) (by rw [hk9 3 (by omega) (by omega)]; exact hj3) (by rw [hk9 5 (by omega) (by omega)]; exact hj5) (by rw [hk9 6 (by omega) (by omega)]; exact hj6)))
        | (have eo : orb 0 (wnt g dr S) (i + 1) = orb 0 (wnt g dr S) i := by simp only [orb]; rw [if_neg (by rw [hwf]; decide)]
           rw [← eo]
           exact wv_le (by simp [wr_leq, wr_s1, wr_s2, wr_wide]) (ih (i + 1) J9 (by omega) hf9 (by rw [hk9 2 (by omega) (by omega)]; exact hj2) (by rw [hk9 3 (by omega) (by omega)]; exact hj3) (by rw [hk9 5 (by omega) (by omega)]; exact hj5) (by rw [hk9 6 (by omega) (by omega)]; exact hj6)))
        | (have eo : orb 0 (wnt g dr S) (i + 1) = orb 0 (wnt g dr S) i := by simp only [orb]; rw [if_neg (by rw [hwf]; decide)]
           rw [← eo]
           exact wv_le (by simp [wr_leq, wr_s1, wr_s2, wr_wide]) (ih (i + 1) J (by omega) hf hj2 hj3 hj5 hj6))
      · rw [hst] at h89
        refine wv_lload dX0_willing_92 rfl ?_
        refine wv_iload dX0_willing_94 rfl ?_
        refine wv_s2e oX7_holds kX0_48 dX0_willing_96 (by omega) (Nat.le_of_ble_eq_true rfl) (Nat.le_of_ble_eq_true rfl) (cW_holds _ _ (by omega)) ?_
        refine wv_if_ne (tgt := 145) dX0_willing_99 (by decide) (fun h99 => ?_) (fun h99 => ?_)
        · have hwf : wnt g dr S i = false := by
            unfold wnt
            rw [hfx] at h99
            cases hgi : gG g i with
            | true => rw [(hs0a hgi).1]; simp
            | false => rw [hgi] at h99; cases hd : dr i <;> simp_all
          refine wv_iinc (v := nI (i + 1)) dX0_willing_145 rfl (nI_1 (i)) (by decide) ?_
          refine wv_goto (tgt := 66) dX0_willing_148 (by decide) ?_
          first
          | (have eo : orb 0 (wnt g dr S) (i + 1) = orb 0 (wnt g dr S) i ||| (1 <<< ((nI i).toInt64 &&& 63)) := by simp only [orb]; rw [if_pos hwt]
             rw [← eo]
             exact wv_le (by simp [wr_leq, wr_s1, wr_s2, wr_wide]) (ih (i + 1) J9 (by omega) hf9 (by rw [hk9 2 (by omega) (by omega)]; exact hj2) (by rw [hk9 3 (by omega) (by omega)]; exact hj3) (by rw [hk9 5 (by omega) (by omega)]; exact hj5) (by rw [hk9 6 (by omega) (by omega)]; exact hj6)))
          | (have eo : orb 0 (wnt g dr S) (i + 1) = orb 0 (wnt g dr S) i := by simp only [orb]; rw [if_neg (by rw [hwf]; decide)]
             rw [← eo]
             exact wv_le (by simp [wr_leq, wr_s1, wr_s2, wr_wide]) (ih (i + 1) J9 (by omega) hf9 (by rw [hk9 2 (by omega) (by omega)]; exact hj2) (by rw [hk9 3 (by omega) (by omega)]; exact hj3) (by rw [hk9 5 (by omega) (by omega)]; exact hj5) (by rw [hk9 6 (by omega) (by omega)]; exact hj6)))
          | (have eo : orb 0 (wnt g dr S) (i + 1) = orb 0 (wnt g dr S) i := by simp only [orb]; rw [if_neg (by rw [hwf]; decide)]
             rw [← eo]
             exact wv_le (by simp [wr_leq, wr_s1, wr_s2, wr_wide]) (ih (i + 1) J (by omega) hf hj2 hj3 hj5 hj6))
        · have hgd : gG g i = false ∧ dr i = false := by
            rw [hfx] at h99
            cases hgi : gG g i <;> cases hd : dr i <;> simp_all
          have hSi : S.1 i = 0 := by rw [(hs0b hgd.1).1]; exact h89
          refine wv_aload_n dX0_willing_102 rfl ?_
          refine wv_aload_n dX0_willing_103 rfl ?_
          refine wv_iload dX0_willing_104 rfl ?_
          refine wv_v2u oX0_lookAround kX0_65 dX0_willing_106 (by omega) (by first | assumption | rfl) ⟨rfl, by decide⟩ (Nat.le_of_ble_eq_true rfl) (Nat.le_of_ble_eq_true rfl) (cC_look c t i (gN g) (gSe g) hc' hg' hJt v1 v2 (by rw [hf t (by omega) (by omega)]; exact v16) v17.1 v17.2 (by omega) (fun u hu => crV_fx hS' hu)) ?_
          try rw [hro]
          refine wv_aload_n dX0_willing_109 rfl ?_
          refine wv_getR fX0_21 dX0_willing_110 rfl (by first | assumption | rfl) (by first | exact hR _ _ _ rfl | assumption) ?_
          refine wv_iconst (v := 4) dX0_willing_113 (by decide) ?_
          refine wv_aload_n dX0_willing_114 rfl ?_
          refine wv_getR fX0_15 dX0_willing_115 rfl (by first | assumption | rfl) (by first | exact hR _ _ _ rfl | assumption) ?_
          refine wv_iload dX0_willing_118 rfl ?_
          refine wv_ialdN dX0_willing_120 (by first | assumption | rfl) (by omega) (by decide) ?_
          rw [show (wr_uI (wr_uI J (c + 4) 0 (nI (sL (lb (L c 5)) (gN g) i (min (gSe g) ((gN g - 1) / 2))))) (c + 4) 1 (nI (sR (lb (L c 5)) (gN g) i (min (gSe g) ((gN g - 1) / 2))))) (c + 2) i = S.2.1 i by rw [wr_uI_ne (by omega), wr_uI_ne (by omega)]; exact hro]
          refine wv_iastK (k := 4) dX0_willing_121 (by first | assumption | rfl) (by decide) (by unfold vp_in; decide) ?_
          refine wv_aload_n dX0_willing_122 rfl ?_
          refine wv_getR fX0_69 dX0_willing_123 rfl (by first | assumption | rfl) (by first | exact hR _ _ _ rfl | assumption) ?_
          refine wv_aload_n dX0_willing_126 rfl ?_
          refine wv_getR fX0_21 dX0_willing_127 rfl (by first | assumption | rfl) (by first | exact hR _ _ _ rfl | assumption) ?_
          refine wv_v1 oX2_worth kX0_73 dX0_willing_130 (by omega) (by first | assumption | rfl) ⟨rfl, by decide⟩ (Nat.le_of_ble_eq_true rfl) (Nat.le_of_ble_eq_true rfl) (cL_worth (t + 1) (c + 4) (gLn g) g1 g2 g3 c4 p4 p5 (by omega) v22 (by rw [wr_uI_ne (by omega), wr_uI_ne (by omega), wr_uI_ne (by omega), hf (t + 1) (by omega) (by omega)]; exact v21) (by rw [wr_uI_ne (by omega), wr_uI_ne (by omega), wr_uI_ne (by omega), hf (t + 1 + 1) (by omega) (by omega), v20]; exact v23)) (fun v9 s9 J9 L9 R9 h9 => ?_)
          obtain ⟨rfl, rfl, rfl, rfl, hJ9⟩ := h9
          generalize hJb : wr_uI (wr_uI (wr_uI J (c + 4) 0 (nI (sL (lb (L9 c 5)) (gN g) i (min (gSe g) ((gN g - 1) / 2))))) (c + 4) 1 (nI (sR (lb (L9 c 5)) (gN g) i (min (gSe g) ((gN g - 1) / 2))))) (c + 4) 4 (S.2.1 i) = JB at hJ9
          have hval : (evl (JB (t + 1 + 1)) (JB (c + 4)) (gLn g) 0 (fun _ => 0, 0)).1 0 = val (gC g) (gLn g) (lk g S i) := by
            have e1 : JB (t + 1 + 1) = gC g := by rw [← hJb, wr_uI_ne (by omega), wr_uI_ne (by omega), wr_uI_ne (by omega), hf (t + 1 + 1) (by omega) (by omega), v20]
            rw [e1]
            refine val_congr v23 (fun j hj => ?_)
            rw [← hJb]
            have q0 := sL_congr (f := lb (L9 c 5)) (f' := f1 S) (n := gN g) (s := i) (m := gM g) (by omega) (fun u hu => crV_f1 hS' (by omega))
            have q1 := sR_congr (f := lb (L9 c 5)) (f' := f1 S) (n := gN g) (s := i) (m := gM g) (by omega) (fun u hu => crV_f1 hS' (by omega))
            unfold lk
            rw [← q0, ← q1]
            rcases (by omega : j = 0 ∨ j = 1 ∨ j = 2 ∨ j = 3 ∨ j = 4 ∨ j = 5 ∨ j = 6) with rfl | rfl | rfl | rfl | rfl | rfl | rfl <;> simp [wr_uI, gM, hj2, hj3, hj5, hj6]
          have hk9 : ∀ k, 2 ≤ k → k ≠ 4 → J9 (c + 4) k = J (c + 4) k := fun k h1 h2 => by rw [hJ9 (c + 4) (by omega), ← hJb]; simp [wr_uI, h2, show ¬ k = 0 by omega, show ¬ k = 1 by omega]
          have hf9 : ∀ a, a ≠ c + 4 → a ≠ t + 3 → J9 a = I a := fun a h1 h2 => by rw [hJ9 a (by omega), ← hJb, wr_uI_ne h1, wr_uI_ne h1, wr_uI_ne h1]; exact hf a h1 h2
          refine wv_if_eq (tgt := 145) dX0_willing_133 (by decide) (fun h133 => ?_) (fun h133 => ?_)
          · have hwf : wnt g dr S i = false := by unfold wnt; rw [hval] at h133; simp [h133]
            refine wv_iinc (v := nI (i + 1)) dX0_willing_145 rfl (nI_1 (i)) (by decide) ?_
            refine wv_goto (tgt := 66) dX0_willing_148 (by decide) ?_
            first
            | (have eo : orb 0 (wnt g dr S) (i + 1) = orb 0 (wnt g dr S) i ||| (1 <<< ((nI i).toInt64 &&& 63)) := by simp only [orb]; rw [if_pos hwt]
               rw [← eo]
               exact wv_le (by simp [wr_leq, wr_s1, wr_s2, wr_wide]) (ih (i + 1) J9 (by omega) hf9 (by rw [hk9 2 (by omega) (by omega)]; exact hj2) (by rw [hk9 3 (by omega) (by omega)]; exact hj3) (by rw [hk9 5 (by omega) (by omega)]; exact hj5) (by rw [hk9 6 (by omega) (by omega)]; exact hj6)))
            | (have eo : orb 0 (wnt g dr S) (i + 1) = orb 0 (wnt g dr S) i := by simp only [orb]; rw [if_neg (by rw [hwf]; decide)]
               rw [← eo]
               exact wv_le (by simp [wr_leq, wr_s1, wr_s2, wr_wide]) (ih (i + 1) J9 (by omega) hf9 (by rw [hk9 2 (by omega) (by omega)]; exact hj2) (by rw [hk9 3 (by omega) (by omega)]; exact hj3) (by rw [hk9 5 (by omega) (by omega)]; exact hj5) (by rw [hk9 6 (by omega) (by omega)]; exact hj6)))
            | (have eo : orb 0 (wnt g dr S) (i + 1) = orb 0 (wnt g dr S) i := by simp only [orb]; rw [if_neg (by rw [hwf]; decide)]
               rw [← eo]
               exact wv_le (by simp [wr_leq, wr_s1, wr_s2, wr_wide]) (ih (i + 1) J (by omega) hf hj2 hj3 hj5 hj6))
          · have hwt : wnt g dr S i = true := by unfold wnt; rw [hval] at h133; simp [h133, hgd.2, hSi]
            refine wv_lload dX0_willing_136 rfl ?_
            refine wv_lconst (v := 1) dX0_willing_138 (by decide) ?_
            refine wv_iload dX0_willing_139 rfl ?_
            refine wv_lshl dX0_willing_141 ?_
            refine wv_lor dX0_willing_142 ?_
            refine wv_lstore dX0_willing_143 (by decide) ?_
            refine wv_iinc (v := nI (i + 1)) dX0_willing_145 rfl (nI_1 (i)) (by decide) ?_
            refine wv_goto (tgt := 66) dX0_willing_148 (by decide) ?_
            first
            | (have eo : orb 0 (wnt g dr S) (i + 1) = orb 0 (wnt g dr S) i ||| (1 <<< ((nI i).toInt64 &&& 63)) := by simp only [orb]; rw [if_pos hwt]
               rw [← eo]
               exact wv_le (by simp [wr_leq, wr_s1, wr_s2, wr_wide]) (ih (i + 1) J9 (by omega) hf9 (by rw [hk9 2 (by omega) (by omega)]; exact hj2) (by rw [hk9 3 (by omega) (by omega)]; exact hj3) (by rw [hk9 5 (by omega) (by omega)]; exact hj5) (by rw [hk9 6 (by omega) (by omega)]; exact hj6)))
            | (have eo : orb 0 (wnt g dr S) (i + 1) = orb 0 (wnt g dr S) i := by simp only [orb]; rw [if_neg (by rw [hwf]; decide)]
               rw [← eo]
               exact wv_le (by simp [wr_leq, wr_s1, wr_s2, wr_wide]) (ih (i + 1) J9 (by omega) hf9 (by rw [hk9 2 (by omega) (by omega)]; exact hj2) (by rw [hk9 3 (by omega) (by omega)]; exact hj3) (by rw [hk9 5 (by omega) (by omega)]; exact hj5) (by rw [hk9 6 (by omega) (by omega)]; exact hj6)))
            | (have eo : orb 0 (wnt g dr S) (i + 1) = orb 0 (wnt g dr S) i := by simp only [orb]; rw [if_neg (by rw [hwf]; decide)]
               rw [← eo]
               exact wv_le (by simp [wr_leq, wr_s1, wr_s2, wr_wide]) (ih (i + 1) J (by omega) hf hj2 hj3 hj5 hj6))
  refine wv_pad 5 ?_
  show wr_V l 3 mX0_willing 0 [some (.ref c), some (.ref t), some (.long dear), none, none, none, none, none, none] [] SH I L R 0 0 _
  refine wv_aload_n dX0_willing_0 rfl ?_
  refine wv_getR fX0_21 dX0_willing_1 rfl (by first | assumption | rfl) (by first | exact hR _ _ _ rfl | assumption) ?_
  refine wv_iconst (v := 2) dX0_willing_4 (by decide) ?_
  refine wv_aload_n dX0_willing_5 rfl ?_
  refine wv_aload_n dX0_willing_6 rfl ?_
  refine wv_getI fX0_35 dX0_willing_7 rfl (by first | assumption | rfl) ?_
  refine wv_iconst (v := 1) dX0_willing_10 (by decide) ?_
  refine wv_iadd dX0_willing_11 ?_
  refine wv_v1e oX5_slackIn kX0_52 dX0_willing_12 (by omega) (by first | assumption | rfl) ⟨rfl, by decide⟩ (Nat.le_of_ble_eq_true rfl) (Nat.le_of_ble_eq_true rfl) (cR_slackIn t _ g.2.1.2.2.2 g0 g4 g5 g6 p1 p2 p3 v11 v10) ?_
  refine wv_iastK (k := 2) dX0_willing_15 (by first | assumption | rfl) (by decide) (by unfold vp_in; decide) ?_
  refine wv_aload_n dX0_willing_16 rfl ?_
  refine wv_getR fX0_21 dX0_willing_17 rfl (by first | assumption | rfl) (by first | exact hR _ _ _ rfl | assumption) ?_
  refine wv_iconst (v := 3) dX0_willing_20 (by decide) ?_
  refine wv_aload_n dX0_willing_21 rfl ?_
  refine wv_getI fX0_38 dX0_willing_22 rfl (by first | assumption | rfl) ?_
  refine wv_iastK (k := 3) dX0_willing_25 (by first | assumption | rfl) (by decide) (by unfold vp_in; decide) ?_
  refine wv_aload_n dX0_willing_26 rfl ?_
  refine wv_getR fX0_21 dX0_willing_27 rfl (by first | assumption | rfl) (by first | exact hR _ _ _ rfl | assumption) ?_
  refine wv_iconst (v := 5) dX0_willing_30 (by decide) ?_
  refine wv_aload_n dX0_willing_31 rfl ?_
  refine wv_getL fX0_28 dX0_willing_32 rfl (by first | assumption | rfl) ?_
  refine wv_s1e oJ13_bitCount_95d88 kX0_56 dX0_willing_35 (by omega) (Nat.le_of_ble_eq_true rfl) (Nat.le_of_ble_eq_true rfl) (cJ_bits _) ?_
  refine wv_iastK (k := 5) dX0_willing_38 (by first | assumption | rfl) (by decide) (by unfold vp_in; decide) ?_
  refine wv_aload_n dX0_willing_39 rfl ?_
  refine wv_getR fX0_21 dX0_willing_40 rfl (by first | assumption | rfl) (by first | exact hR _ _ _ rfl | assumption) ?_
  refine wv_bipush (v := 6) dX0_willing_43 (by decide) ?_
  refine wv_aload_n dX0_willing_45 rfl ?_
  refine wv_getI fX0_35 dX0_willing_46 rfl (by first | assumption | rfl) ?_
  refine wv_iconst (v := 1) dX0_willing_49 (by decide) ?_
  refine wv_iadd dX0_willing_50 ?_
  refine wv_iastK (k := 6) dX0_willing_51 (by first | assumption | rfl) (by decide) (by unfold vp_in; decide) ?_
  refine wv_aload_n dX0_willing_52 rfl ?_
  refine wv_getL fX0_41 dX0_willing_53 rfl (by first | assumption | rfl) ?_
  refine wv_lload_n dX0_willing_56 rfl ?_
  refine wv_lor dX0_willing_57 ?_
  refine wv_lstore dX0_willing_58 (by decide) ?_
  refine wv_lconst (v := 0) dX0_willing_60 (by decide) ?_
  refine wv_lstore dX0_willing_61 (by decide) ?_
  refine wv_iconst (v := nI 0) dX0_willing_63 rfl ?_
  refine wv_istore dX0_willing_64 (by decide) ?_
  refine wv_le (by simp [wr_leq, wr_s1, wr_s2, wr_wide, orb]) (lp (gN g) 0 _ (by omega) (fun a h1 h2 => by rw [wr_uI_ne h1, wr_uI_ne h1, wr_uI_ne h1, wr_uI_ne h1]) ?_ ?_ ?_ ?_)
  · simp [wr_uI, slk, s3, v7, v8, v9]
  · simp [wr_uI, s4]
  · simp [wr_uI, crV_up hS' v2]
  · simp [wr_uI, s3]

