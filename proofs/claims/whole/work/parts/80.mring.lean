/-! the model: ring -/
def plI (I : wr_TI) : wr_TI := wr_uI (wr_uI (wr_uI (wr_uI (wr_uI (wr_uI (wr_uI (wr_uI (wr_uI (wr_uI I 55 30 2) 55 31 4) 55 32 2) 55 33 0) 55 46 2) 55 44 3) 71 0 1) 71 1 0) 72 1 0) 71 2 25
set_option maxHeartbeats 4000000 in
set_option maxRecDepth 100000 in
theorem x_plain {l : Launch} {I : wr_TI} {L : wr_TL} {R : wr_TR} (hR : wr_RC R) : wr_E l 0 mX8_plainLaw [.ref 55] SH I L R none (plI I) L R := by
  refine wv_pad 0 ?_
  show wr_V l 0 mX8_plainLaw 0 [some (.ref 55)] [] SH I L R 0 0 _
  refine wv_aload_n dX8_plainLaw_0 rfl ?_
  refine wv_iconst (v := 2) dX8_plainLaw_1 (by decide) ?_
  refine wv_putI fX8_354 dX8_plainLaw_2 rfl rfl rfl rfl (by first | assumption | rfl) ?_
  refine wv_aload_n dX8_plainLaw_5 rfl ?_
  refine wv_iconst (v := 4) dX8_plainLaw_6 (by decide) ?_
  refine wv_putI fX8_357 dX8_plainLaw_7 rfl rfl rfl rfl (by first | assumption | rfl) ?_
  refine wv_aload_n dX8_plainLaw_10 rfl ?_
  refine wv_iconst (v := 2) dX8_plainLaw_11 (by decide) ?_
  refine wv_putI fX8_360 dX8_plainLaw_12 rfl rfl rfl rfl (by first | assumption | rfl) ?_
  refine wv_aload_n dX8_plainLaw_15 rfl ?_
  refine wv_iconst (v := 0) dX8_plainLaw_16 (by decide) ?_
  refine wv_putI fX8_363 dX8_plainLaw_17 rfl rfl rfl rfl (by first | assumption | rfl) ?_
  refine wv_aload_n dX8_plainLaw_20 rfl ?_
  refine wv_iconst (v := 2) dX8_plainLaw_21 (by decide) ?_
  refine wv_putI fX8_366 dX8_plainLaw_22 rfl rfl rfl rfl (by first | assumption | rfl) ?_
  refine wv_aload_n dX8_plainLaw_25 rfl ?_
  refine wv_iconst (v := 3) dX8_plainLaw_26 (by decide) ?_
  refine wv_putI fX8_369 dX8_plainLaw_27 rfl rfl rfl rfl (by first | assumption | rfl) ?_
  refine wv_aload_n dX8_plainLaw_30 rfl ?_
  refine wv_getR fX8_60 dX8_plainLaw_31 rfl (by first | assumption | rfl) (by first | exact hR _ _ _ rfl | assumption) ?_
  refine wv_iconst (v := 0) dX8_plainLaw_34 (by decide) ?_
  refine wv_iconst (v := 1) dX8_plainLaw_35 (by decide) ?_
  refine wv_iastK (k := 0) dX8_plainLaw_36 (by first | assumption | rfl) (by decide) (by unfold vp_in; decide) ?_
  refine wv_aload_n dX8_plainLaw_37 rfl ?_
  refine wv_getR fX8_60 dX8_plainLaw_38 rfl (by first | assumption | rfl) (by first | exact hR _ _ _ rfl | assumption) ?_
  refine wv_iconst (v := 1) dX8_plainLaw_41 (by decide) ?_
  refine wv_iconst (v := 0) dX8_plainLaw_42 (by decide) ?_
  refine wv_iastK (k := 1) dX8_plainLaw_43 (by first | assumption | rfl) (by decide) (by unfold vp_in; decide) ?_
  refine wv_aload_n dX8_plainLaw_44 rfl ?_
  refine wv_getR fX8_63 dX8_plainLaw_45 rfl (by first | assumption | rfl) (by first | exact hR _ _ _ rfl | assumption) ?_
  refine wv_iconst (v := 1) dX8_plainLaw_48 (by decide) ?_
  refine wv_iconst (v := 0) dX8_plainLaw_49 (by decide) ?_
  refine wv_iastK (k := 1) dX8_plainLaw_50 (by first | assumption | rfl) (by decide) (by unfold vp_in; decide) ?_
  refine wv_aload_n dX8_plainLaw_51 rfl ?_
  refine wv_getR fX8_60 dX8_plainLaw_52 rfl (by first | assumption | rfl) (by first | exact hR _ _ _ rfl | assumption) ?_
  refine wv_iconst (v := 2) dX8_plainLaw_55 (by decide) ?_
  refine wv_bipush (v := 25) dX8_plainLaw_56 (by decide) ?_
  refine wv_iastK (k := 2) dX8_plainLaw_58 (by first | assumption | rfl) (by decide) (by unfold vp_in; decide) ?_
  refine wv_ret (x := ()) rfl dX8_plainLaw_59 ?_
  exact ⟨rfl, rfl, rfl, rfl, rfl⟩

def gp (x : Int32) : Int32 := if x = 0 then 0 else 40
set_option maxHeartbeats 4000000 in
set_option maxRecDepth 100000 in
theorem x_fresh {l : Launch} {I : wr_TI} {L : wr_TL} {R : wr_TR} (hR : wr_RC R) : wr_P l 0 mX8_freshen [.ref 55] SH I L R (fun v s' I' L' R' => v = none ∧ s' = SH ∧ L' = L ∧ R' = R ∧ (∀ s, s < 40 → I' 75 s = gp (I 61 s) ∧ I' 76 s = 0) ∧ (∀ q, q < 3 → I' 80 q = 0) ∧ I' 55 57 = 0 ∧ I' 55 58 = 0 ∧ (∀ b, b ≠ 55 → b ≠ 75 → b ≠ 76 → b ≠ 80 → I' b = I b) ∧ ∀ k, k ≠ 57 → k ≠ 58 → I' 55 k = I 55 k) := by
  have lp2 : ∀ (J0 : wr_TI), (∀ s, s < 40 → J0 75 s = gp (I 61 s) ∧ J0 76 s = 0) → (∀ b, b ≠ 75 → b ≠ 76 → J0 b = I b) → ∀ (k i : Nat) (J : wr_TI), i + k = 3 → (∀ q, q < i → J 80 q = 0) → (∀ b, b ≠ 80 → J b = J0 b) → wr_V l 0 mX8_freshen 44 [some (.ref 55), some (.int (nI i))] [] SH J L R 0 0 (fun v s' I' L' R' => v = none ∧ s' = SH ∧ L' = L ∧ R' = R ∧ (∀ s, s < 40 → I' 75 s = gp (I 61 s) ∧ I' 76 s = 0) ∧ (∀ q, q < 3 → I' 80 q = 0) ∧ I' 55 57 = 0 ∧ I' 55 58 = 0 ∧ (∀ b, b ≠ 55 → b ≠ 75 → b ≠ 76 → b ≠ 80 → I' b = I b) ∧ ∀ k, k ≠ 57 → k ≠ 58 → I' 55 k = I 55 k) := by
    intro J0 a1 a2 k
    induction k with
    | zero =>
      intro i J hi h0 hJ
      obtain rfl : i = 3 := by omega
      refine wv_iload_n dX8_freshen_44 rfl ?_
      refine wv_iconst (v := 3) dX8_freshen_45 (by decide) ?_
      refine wv_icmp_ge (tgt := 62) dX8_freshen_46 (by decide) (fun h46 => ?_) (fun h46 => absurd (nI_le (a := 3) (by omega) (by omega)) h46)
      refine wv_aload_n dX8_freshen_62 rfl ?_
      refine wv_iconst (v := 0) dX8_freshen_63 (by decide) ?_
      refine wv_putI fX8_381 dX8_freshen_64 rfl rfl rfl rfl (by first | assumption | rfl) ?_
      refine wv_aload_n dX8_freshen_67 rfl ?_
      refine wv_iconst (v := 0) dX8_freshen_68 (by decide) ?_
      refine wv_putI fX8_384 dX8_freshen_69 rfl rfl rfl rfl (by first | assumption | rfl) ?_
      refine wv_ret (x := ()) rfl dX8_freshen_72 ?_
      have hb : ∀ b, b ≠ 55 → wr_uI (wr_uI J 55 57 0) 55 58 0 b = J b := fun b hb => by rw [wr_uI_ne hb, wr_uI_ne hb]
      refine ⟨rfl, rfl, rfl, rfl, fun s hs => ?_, fun q hq => ?_, by simp [wr_uI], by simp [wr_uI], fun b b1 b2 b3 b4 => ?_, fun k k1 k2 => ?_⟩
      · rw [hb 75 (by omega), hb 76 (by omega), hJ 75 (by omega), hJ 76 (by omega)]; exact a1 s hs
      · rw [hb 80 (by omega)]; exact h0 q hq
      · rw [hb b b1, hJ b b4]; exact a2 b b2 b3
      · rw [wr_uI_nk k2, wr_uI_nk k1, hJ 55 (by omega), a2 55 (by omega) (by omega)]
    | succ k ih =>
      intro i J hi h0 hJ
      refine wv_iload_n dX8_freshen_44 rfl ?_
      refine wv_iconst (v := 3) dX8_freshen_45 (by decide) ?_
      refine wv_icmp_ge (tgt := 62) dX8_freshen_46 (by decide) (fun h46 => absurd h46 (nI_ge (b := 3) (by omega) (by omega))) (fun h46 => ?_)
      refine wv_aload_n dX8_freshen_49 rfl ?_
      refine wv_getR fX8_87 dX8_freshen_50 rfl (by first | assumption | rfl) (by first | exact hR _ _ _ rfl | assumption) ?_
      refine wv_iload_n dX8_freshen_53 rfl ?_
      refine wv_iconst (v := 0) dX8_freshen_54 (by decide) ?_
      refine wv_iastN dX8_freshen_55 (by first | assumption | rfl) (by omega) (by decide) ?_
      refine wv_iinc (v := nI (i + 1)) dX8_freshen_56 rfl (nI_1 (i)) (by decide) ?_
      refine wv_goto (tgt := 44) dX8_freshen_59 (by decide) ?_
      refine wv_le (by simp [wr_leq, wr_s1, wr_s2, wr_wide]) (ih (i + 1) _ (by omega) (fun q hq => ?_) (fun b hb => by rw [wr_uI_ne hb]; exact hJ b hb))
      by_cases e : q = i
      · subst e; simp [wr_uI]
      · rw [wr_uI_nk e]; exact h0 q (by omega)
  have lp1 : ∀ (k i : Nat) (J : wr_TI), i + k = 40 → (∀ s, s < i → J 75 s = gp (I 61 s) ∧ J 76 s = 0) → (∀ b, b ≠ 75 → b ≠ 76 → J b = I b) → wr_V l 0 mX8_freshen 2 [some (.ref 55), some (.int (nI i))] [] SH J L R 0 0 (fun v s' I' L' R' => v = none ∧ s' = SH ∧ L' = L ∧ R' = R ∧ (∀ s, s < 40 → I' 75 s = gp (I 61 s) ∧ I' 76 s = 0) ∧ (∀ q, q < 3 → I' 80 q = 0) ∧ I' 55 57 = 0 ∧ I' 55 58 = 0 ∧ (∀ b, b ≠ 55 → b ≠ 75 → b ≠ 76 → b ≠ 80 → I' b = I b) ∧ ∀ k, k ≠ 57 → k ≠ 58 → I' 55 k = I 55 k) := by
    intro k
    induction k with
    | zero =>
      intro i J hi h0 hJ
      obtain rfl : i = 40 := by omega
      refine wv_iload_n dX8_freshen_2 rfl ?_
      refine wv_bipush (v := 40) dX8_freshen_3 (by decide) ?_
      refine wv_icmp_ge (tgt := 42) dX8_freshen_5 (by decide) (fun h5 => ?_) (fun h5 => absurd (nI_le (a := 40) (by omega) (by omega)) h5)
      refine wv_iconst (v := nI 0) dX8_freshen_42 rfl ?_
      refine wv_istore_k (i := 1) dX8_freshen_43 rfl (by decide) ?_
      exact wv_le (by simp [wr_leq, wr_s1, wr_s2, wr_wide]) (lp2 J h0 hJ 3 0 J (by omega) (fun q hq => by omega) (fun _ _ => rfl))
    | succ k ih =>
      intro i J hi h0 hJ
      refine wv_iload_n dX8_freshen_2 rfl ?_
      refine wv_bipush (v := 40) dX8_freshen_3 (by decide) ?_
      refine wv_icmp_ge (tgt := 42) dX8_freshen_5 (by decide) (fun h5 => absurd h5 (nI_ge (b := 40) (by omega) (by omega))) (fun h5 => ?_)
      refine wv_aload_n dX8_freshen_8 rfl ?_
      refine wv_getR fX8_72 dX8_freshen_9 rfl (by first | assumption | rfl) (by first | exact hR _ _ _ rfl | assumption) ?_
      refine wv_iload_n dX8_freshen_12 rfl ?_
      refine wv_aload_n dX8_freshen_13 rfl ?_
      refine wv_getR fX8_30 dX8_freshen_14 rfl (by first | assumption | rfl) (by first | exact hR _ _ _ rfl | assumption) ?_
      refine wv_iload_n dX8_freshen_17 rfl ?_
      refine wv_zaldN dX8_freshen_18 (by first | assumption | rfl) (by omega) (by decide) ?_
      rw [hJ 61 (by omega) (by omega)]
      refine wv_if_eq (tgt := 27) dX8_freshen_19 (by decide) (fun h19 => ?_) (fun h19 => ?_)
      · refine wv_iconst (v := 0) dX8_freshen_27 (by decide) ?_
        refine wv_iastN dX8_freshen_28 (by first | assumption | rfl) (by omega) (by decide) ?_
        refine wv_aload_n dX8_freshen_29 rfl ?_
        refine wv_getR fX8_75 dX8_freshen_30 rfl (by first | assumption | rfl) (by first | exact hR _ _ _ rfl | assumption) ?_
        refine wv_iload_n dX8_freshen_33 rfl ?_
        refine wv_iconst (v := 0) dX8_freshen_34 (by decide) ?_
        refine wv_iastN dX8_freshen_35 (by first | assumption | rfl) (by omega) (by decide) ?_
        refine wv_iinc (v := nI (i + 1)) dX8_freshen_36 rfl (nI_1 (i)) (by decide) ?_
        refine wv_goto (tgt := 2) dX8_freshen_39 (by decide) ?_
        refine wv_le (by simp [wr_leq, wr_s1, wr_s2, wr_wide]) (ih (i + 1) _ (by omega) (fun s hs => ?_) (fun b b1 b2 => by rw [wr_uI_ne b2, wr_uI_ne b1]; exact hJ b b1 b2))
        by_cases e : s = i
        · subst e; simp [wr_uI, gp, h19]
        · rw [wr_uI_nk e, wr_uI_nk e, wr_uI_nk e, wr_uI_nk e]; exact h0 s (by omega)
      · refine wv_bipush (v := 40) dX8_freshen_22 (by decide) ?_
        refine wv_goto (tgt := 28) dX8_freshen_24 (by decide) ?_
        refine wv_iastN dX8_freshen_28 (by first | assumption | rfl) (by omega) (by decide) ?_
        refine wv_aload_n dX8_freshen_29 rfl ?_
        refine wv_getR fX8_75 dX8_freshen_30 rfl (by first | assumption | rfl) (by first | exact hR _ _ _ rfl | assumption) ?_
        refine wv_iload_n dX8_freshen_33 rfl ?_
        refine wv_iconst (v := 0) dX8_freshen_34 (by decide) ?_
        refine wv_iastN dX8_freshen_35 (by first | assumption | rfl) (by omega) (by decide) ?_
        refine wv_iinc (v := nI (i + 1)) dX8_freshen_36 rfl (nI_1 (i)) (by decide) ?_
        refine wv_goto (tgt := 2) dX8_freshen_39 (by decide) ?_
        refine wv_le (by simp [wr_leq, wr_s1, wr_s2, wr_wide]) (ih (i + 1) _ (by omega) (fun s hs => ?_) (fun b b1 b2 => by rw [wr_uI_ne b2, wr_uI_ne b1]; exact hJ b b1 b2))
        by_cases e : s = i
        · subst e; simp [wr_uI, gp, h19]
        · rw [wr_uI_nk e, wr_uI_nk e, wr_uI_nk e, wr_uI_nk e]; exact h0 s (by omega)
  refine wv_pad 1 ?_
  show wr_V l 0 mX8_freshen 0 [some (.ref 55), none] [] SH I L R 0 0 _
  refine wv_iconst (v := nI 0) dX8_freshen_0 rfl ?_
  refine wv_istore_k (i := 1) dX8_freshen_1 rfl (by decide) ?_
  exact wv_le (by simp [wr_leq, wr_s1, wr_s2, wr_wide]) (lp1 40 0 I (by omega) (fun s hs => by omega) (fun _ _ _ => rfl))

set_option maxHeartbeats 4000000 in
set_option maxRecDepth 100000 in
theorem x_rg1 {l : Launch} {R : wr_TR} (hR : wr_RC R) (L : wr_TL) (Q : wr_TQ) (I0 : wr_TI) (hc : ∀ J, (∀ x, x < 40 → J 57 x = 0 ∧ J 58 x = 0 ∧ J 59 x = 0) → (∀ b, b ≠ 57 → b ≠ 58 → b ≠ 59 → J b = I0 b) → wr_V l 6 mX8_ring 94 [some (.ref 55), none] [] SH J L R 0 0 Q) : ∀ (k i : Nat) (J : wr_TI), i + k = 40 → (∀ x, x < i → J 57 x = 0 ∧ J 58 x = 0 ∧ J 59 x = 0) → (∀ b, b ≠ 57 → b ≠ 58 → b ≠ 59 → J b = I0 b) → wr_V l 6 mX8_ring 61 [some (.ref 55), some (.int (nI i))] [] SH J L R 0 0 Q := by
  intro k
  induction k with
  | zero =>
    intro i J hi h0 hJ
    obtain rfl : i = 40 := by omega
    refine wv_iload_n dX8_ring_61 rfl ?_
    refine wv_bipush (v := 40) dX8_ring_62 (by decide) ?_
    refine wv_icmp_ge (tgt := 94) dX8_ring_64 (by decide) (fun h64 => ?_) (fun h64 => absurd (nI_le (a := 40) (by omega) (by omega)) h64)
    exact wv_le (by simp [wr_leq, wr_s1, wr_s2, wr_wide]) (hc J h0 hJ)
  | succ k ih =>
    intro i J hi h0 hJ
    have ev : vp_nar .boolean 0 = 0 := rfl
    refine wv_iload_n dX8_ring_61 rfl ?_
    refine wv_bipush (v := 40) dX8_ring_62 (by decide) ?_
    refine wv_icmp_ge (tgt := 94) dX8_ring_64 (by decide) (fun h64 => absurd h64 (nI_ge (b := 40) (by omega) (by omega))) (fun h64 => ?_)
    refine wv_aload_n dX8_ring_67 rfl ?_
    refine wv_getR fX8_17 dX8_ring_68 rfl (by first | assumption | rfl) (by first | exact hR _ _ _ rfl | assumption) ?_
    refine wv_iload_n dX8_ring_71 rfl ?_
    refine wv_iconst (v := 0) dX8_ring_72 (by decide) ?_
    refine wv_zastN dX8_ring_73 (by first | assumption | rfl) (by omega) (by decide) ?_
    refine wv_aload_n dX8_ring_74 rfl ?_
    refine wv_getR fX8_21 dX8_ring_75 rfl (by first | assumption | rfl) (by first | exact hR _ _ _ rfl | assumption) ?_
    refine wv_iload_n dX8_ring_78 rfl ?_
    refine wv_iconst (v := 0) dX8_ring_79 (by decide) ?_
    refine wv_zastN dX8_ring_80 (by first | assumption | rfl) (by omega) (by decide) ?_
    refine wv_aload_n dX8_ring_81 rfl ?_
    refine wv_getR fX8_24 dX8_ring_82 rfl (by first | assumption | rfl) (by first | exact hR _ _ _ rfl | assumption) ?_
    refine wv_iload_n dX8_ring_85 rfl ?_
    refine wv_iconst (v := 0) dX8_ring_86 (by decide) ?_
    refine wv_zastN dX8_ring_87 (by first | assumption | rfl) (by omega) (by decide) ?_
    refine wv_iinc (v := nI (i + 1)) dX8_ring_88 rfl (nI_1 (i)) (by decide) ?_
    refine wv_goto (tgt := 61) dX8_ring_91 (by decide) ?_
    refine wv_le (by simp [wr_leq, wr_s1, wr_s2, wr_wide]) (ih (i + 1) _ (by omega) (fun x hx => ?_) (fun b b1 b2 b3 => by rw [wr_uI_ne b3, wr_uI_ne b2, wr_uI_ne b1]; exact hJ b b1 b2 b3))
    by_cases e : x = i
    · subst e; simp [wr_uI, ev]
    · rw [wr_uI_nk e, wr_uI_nk e, wr_uI_nk e, wr_uI_nk e, wr_uI_nk e, wr_uI_nk e, wr_uI_nk e, wr_uI_nk e, wr_uI_nk e]; exact h0 x (by omega)

set_option maxHeartbeats 4000000 in
set_option maxRecDepth 100000 in
theorem x_rgL {l : Launch} {R : wr_TR} (hR : wr_RC R) (T : TP) (Q : wr_TQ) (C0 : (Int32 × Int32 × Nat × Int32) × (Nat → Int32) × Nat) : ∀ (k : Nat) (s : XS) (J : wr_TI) (K : wr_TL), 801 ≤ s.1.2.1 + k → mxV J K T s → lOk C0 s.2 → (∀ s' J' K', lText T k s = .inl s' → mxV J' K' T s' → frX J K J' K' → wr_V l 6 mX8_ring 119 [some (.ref 55), none] [] SH J' K' R 0 0 Q) → (∀ e J' K', lText T k s = .inr e → mfl J' e → frX J K J' K' → wr_V l 6 mX8_ring 119 [some (.ref 55), none] [] SH J' K' R 0 0 Q) → wr_V l 6 mX8_ring 98 [some (.ref 55), none] [] SH J K R 0 0 Q := by
  intro k
  induction k with
  | zero =>
    intro s J K hk hV
    have := hV.1.2.1.1.2.2
    have := hV.1.2.1.1.2.1
    omega
  | succ k ih =>
    intro s J K hk hV hok hE hF
    have h0 := hV.1.2.2.1
    have s0 := (srt hV.1.1 hV.1.2.1).2.2.2.1
    simp only [lText] at hE hF
    by_cases hz : s.1.1 = 0
    · rw [if_pos hz] at hE
      refine wv_aload_n dX8_ring_98 rfl ?_
      refine wv_getI fX8_200 dX8_ring_99 rfl (by first | assumption | rfl) ?_
      refine wv_if_ne (tgt := 119) dX8_ring_102 (by decide) (fun h102 => absurd h0 h102) (fun h102 => ?_)
      refine wv_aload_n dX8_ring_105 rfl ?_
      refine wv_getI fX8_187 dX8_ring_106 rfl (by first | assumption | rfl) ?_
      refine wv_if_eq (tgt := 119) dX8_ring_109 (by decide) (fun h109 => ?_) (fun h109 => absurd (s0.mpr hz) h109)
      exact hE s J K rfl hV frX_rf
    · rw [if_neg hz] at hE hF
      have hadv := lLine_ok hV.1.2.2.2.2.2.1 hV.1.2.1 hok hz
      refine wv_aload_n dX8_ring_98 rfl ?_
      refine wv_getI fX8_200 dX8_ring_99 rfl (by first | assumption | rfl) ?_
      refine wv_if_ne (tgt := 119) dX8_ring_102 (by decide) (fun h102 => absurd h0 h102) (fun h102 => ?_)
      refine wv_aload_n dX8_ring_105 rfl ?_
      refine wv_getI fX8_187 dX8_ring_106 rfl (by first | assumption | rfl) ?_
      refine wv_if_eq (tgt := 119) dX8_ring_109 (by decide) (fun h109 => absurd h109 (fun z => hz (s0.mp z))) (fun h109 => ?_)
      refine wv_aload_n dX8_ring_112 rfl ?_
      refine wv_v0 oX8_readLine kX8_372 dX8_ring_113 (by omega) (by first | assumption | rfl) ⟨rfl, by decide⟩ (Nat.le_of_ble_eq_true rfl) (Nat.le_of_ble_eq_true rfl) (x_line hR T s hV) (fun v9 s9 J9 L9 R9 h9 => ?_)
      obtain ⟨rfl, rfl, rfl, hf9, h9⟩ := h9
      refine wv_goto (tgt := 98) dX8_ring_116 (by decide) ?_
      cases hx : lLine T s with
      | inl s2 =>
        rw [hx] at h9 hadv
        rw [hx, lbd_l] at hE hF
        obtain ⟨-, -, a3, a4⟩ := hadv s2 rfl
        exact wv_le (by simp [wr_leq, wr_s1, wr_s2, wr_wide]) (ih s2 J9 L9 (by omega) h9 a4 (fun s' J' K' q1 q2 q3 => hE s' J' K' q1 q2 (frX_tr hf9 q3)) (fun e J' K' q1 q2 q3 => hF e J' K' q1 q2 (frX_tr hf9 q3)))
      | inr e =>
        rw [hx] at h9
        rw [hx, lbd_r] at hF
        have h9 : mfl J9 e := h9
        have n0 : ¬ J9 55 2 = 0 := fun z => by have := h9.2.2; rw [← h9.1, z] at this; exact absurd this (by decide)
        refine wv_aload_n dX8_ring_98 rfl ?_
        refine wv_getI fX8_200 dX8_ring_99 rfl (by first | assumption | rfl) ?_
        refine wv_if_ne (tgt := 119) dX8_ring_102 (by decide) (fun h102 => ?_) (fun h102 => absurd h102 n0)
        exact wv_le (by simp [wr_leq, wr_s1, wr_s2, wr_wide]) (hF e J9 L9 rfl h9 hf9)

theorem bI_vn {b : Bool} : vp_nar .boolean (bI b) = bI b := by cases b <;> rfl
set_option maxHeartbeats 4000000 in
set_option maxRecDepth 100000 in
theorem x_rg2 {l : Launch} {R : wr_TR} (hR : wr_RC R) (K : wr_TL) (Q : wr_TQ) (J0 : wr_TI) (B57 B58 B59 : Nat → Bool) (hB57 : ∀ x, x < 40 → J0 57 x = bI (B57 x)) (hB58 : ∀ x, x < 40 → J0 58 x = bI (B58 x)) (hB59 : ∀ x, x < 40 → J0 59 x = bI (B59 x)) (hc : ∀ J, (∀ x, x < 40 → J 60 x = J0 57 x ∧ J 61 x = J0 58 x ∧ J 62 x = J0 59 x) → (∀ b, b ≠ 60 → b ≠ 61 → b ≠ 62 → J b = J0 b) → wr_V l 6 mX8_ring 178 [some (.ref 55), none] [] SH J K R 0 0 Q) : ∀ (k i : Nat) (J : wr_TI), i + k = 40 → (∀ x, x < i → J 60 x = J0 57 x ∧ J 61 x = J0 58 x ∧ J 62 x = J0 59 x) → (∀ b, b ≠ 60 → b ≠ 61 → b ≠ 62 → J b = J0 b) → wr_V l 6 mX8_ring 130 [some (.ref 55), some (.int (nI i))] [] SH J K R 0 0 Q := by
  intro k
  induction k with
  | zero =>
    intro i J hi h0 hJ
    obtain rfl : i = 40 := by omega
    refine wv_iload_n dX8_ring_130 rfl ?_
    refine wv_bipush (v := 40) dX8_ring_131 (by decide) ?_
    refine wv_icmp_ge (tgt := 178) dX8_ring_133 (by decide) (fun h133 => ?_) (fun h133 => absurd (nI_le (a := 40) (by omega) (by omega)) h133)
    exact wv_le (by simp [wr_leq, wr_s1, wr_s2, wr_wide]) (hc J h0 hJ)
  | succ k ih =>
    intro i J hi h0 hJ
    refine wv_iload_n dX8_ring_130 rfl ?_
    refine wv_bipush (v := 40) dX8_ring_131 (by decide) ?_
    refine wv_icmp_ge (tgt := 178) dX8_ring_133 (by decide) (fun h133 => absurd h133 (nI_ge (b := 40) (by omega) (by omega))) (fun h133 => ?_)
    refine wv_aload_n dX8_ring_136 rfl ?_
    refine wv_getR fX8_27 dX8_ring_137 rfl (by first | assumption | rfl) (by first | exact hR _ _ _ rfl | assumption) ?_
    refine wv_iload_n dX8_ring_140 rfl ?_
    refine wv_aload_n dX8_ring_141 rfl ?_
    refine wv_getR fX8_17 dX8_ring_142 rfl (by first | assumption | rfl) (by first | exact hR _ _ _ rfl | assumption) ?_
    refine wv_iload_n dX8_ring_145 rfl ?_
    refine wv_zaldN dX8_ring_146 (by first | assumption | rfl) (by omega) (by decide) ?_
    rw [hJ 57 (by omega) (by omega) (by omega), hB57 i (by omega)]
    refine wv_zastN dX8_ring_147 (by first | assumption | rfl) (by omega) (by decide) ?_
    refine wv_aload_n dX8_ring_148 rfl ?_
    refine wv_getR fX8_30 dX8_ring_149 rfl (by first | assumption | rfl) (by first | exact hR _ _ _ rfl | assumption) ?_
    refine wv_iload_n dX8_ring_152 rfl ?_
    refine wv_aload_n dX8_ring_153 rfl ?_
    refine wv_getR fX8_21 dX8_ring_154 rfl (by first | assumption | rfl) (by first | exact hR _ _ _ rfl | assumption) ?_
    refine wv_iload_n dX8_ring_157 rfl ?_
    refine wv_zaldN dX8_ring_158 (by first | assumption | rfl) (by omega) (by decide) ?_
    rw [wr_uI_ne (by omega), hJ 58 (by omega) (by omega) (by omega), hB58 i (by omega)]
    refine wv_zastN dX8_ring_159 (by first | assumption | rfl) (by omega) (by decide) ?_
    refine wv_aload_n dX8_ring_160 rfl ?_
    refine wv_getR fX8_33 dX8_ring_161 rfl (by first | assumption | rfl) (by first | exact hR _ _ _ rfl | assumption) ?_
    refine wv_iload_n dX8_ring_164 rfl ?_
    refine wv_aload_n dX8_ring_165 rfl ?_
    refine wv_getR fX8_24 dX8_ring_166 rfl (by first | assumption | rfl) (by first | exact hR _ _ _ rfl | assumption) ?_
    refine wv_iload_n dX8_ring_169 rfl ?_
    refine wv_zaldN dX8_ring_170 (by first | assumption | rfl) (by omega) (by decide) ?_
    rw [wr_uI_ne (by omega), wr_uI_ne (by omega), hJ 59 (by omega) (by omega) (by omega), hB59 i (by omega)]
    refine wv_zastN dX8_ring_171 (by first | assumption | rfl) (by omega) (by decide) ?_
    refine wv_iinc (v := nI (i + 1)) dX8_ring_172 rfl (nI_1 (i)) (by decide) ?_
    refine wv_goto (tgt := 130) dX8_ring_175 (by decide) ?_
    refine wv_le (by simp [wr_leq, wr_s1, wr_s2, wr_wide]) (ih (i + 1) _ (by omega) (fun x hx => ?_) (fun b b1 b2 b3 => by rw [wr_uI_ne b3, wr_uI_ne b2, wr_uI_ne b1]; exact hJ b b1 b2 b3))
    by_cases e : x = i
    · subst e; rw [hB57 x (by omega), hB58 x (by omega), hB59 x (by omega)]; simp [wr_uI, bI_vn]
    · rw [wr_uI_nk e, wr_uI_nk e, wr_uI_nk e, wr_uI_nk e, wr_uI_nk e, wr_uI_nk e, wr_uI_nk e, wr_uI_nk e, wr_uI_nk e]; exact h0 x (by omega)

set_option maxHeartbeats 4000000 in
set_option maxRecDepth 100000 in
theorem x_rg3 {l : Launch} {R : wr_TR} (hR : wr_RC R) (K : wr_TL) (Q : wr_TQ) (J0 : wr_TI) (hc : ∀ J, (∀ x, x < 6 → J 66 x = J0 63 x ∧ J 67 x = J0 64 x ∧ J 68 x = J0 65 x) → (∀ b, b ≠ 66 → b ≠ 67 → b ≠ 68 → J b = J0 b) → wr_V l 6 mX8_ring 228 [some (.ref 55), none] [] SH J K R 0 0 Q) : ∀ (k i : Nat) (J : wr_TI), i + k = 6 → (∀ x, x < i → J 66 x = J0 63 x ∧ J 67 x = J0 64 x ∧ J 68 x = J0 65 x) → (∀ b, b ≠ 66 → b ≠ 67 → b ≠ 68 → J b = J0 b) → wr_V l 6 mX8_ring 180 [some (.ref 55), some (.int (nI i))] [] SH J K R 0 0 Q := by
  intro k
  induction k with
  | zero =>
    intro i J hi h0 hJ
    obtain rfl : i = 6 := by omega
    refine wv_iload_n dX8_ring_180 rfl ?_
    refine wv_bipush (v := 6) dX8_ring_181 (by decide) ?_
    refine wv_icmp_ge (tgt := 228) dX8_ring_183 (by decide) (fun h183 => ?_) (fun h183 => absurd (nI_le (a := 6) (by omega) (by omega)) h183)
    exact wv_le (by simp [wr_leq, wr_s1, wr_s2, wr_wide]) (hc J h0 hJ)
  | succ k ih =>
    intro i J hi h0 hJ
    refine wv_iload_n dX8_ring_180 rfl ?_
    refine wv_bipush (v := 6) dX8_ring_181 (by decide) ?_
    refine wv_icmp_ge (tgt := 228) dX8_ring_183 (by decide) (fun h183 => absurd h183 (nI_ge (b := 6) (by omega) (by omega))) (fun h183 => ?_)
    refine wv_aload_n dX8_ring_186 rfl ?_
    refine wv_getR fX8_45 dX8_ring_187 rfl (by first | assumption | rfl) (by first | exact hR _ _ _ rfl | assumption) ?_
    refine wv_iload_n dX8_ring_190 rfl ?_
    refine wv_aload_n dX8_ring_191 rfl ?_
    refine wv_getR fX8_36 dX8_ring_192 rfl (by first | assumption | rfl) (by first | exact hR _ _ _ rfl | assumption) ?_
    refine wv_iload_n dX8_ring_195 rfl ?_
    refine wv_ialdN dX8_ring_196 (by first | assumption | rfl) (by omega) (by decide) ?_
    rw [hJ 63 (by omega) (by omega) (by omega)]
    refine wv_iastN dX8_ring_197 (by first | assumption | rfl) (by omega) (by decide) ?_
    refine wv_aload_n dX8_ring_198 rfl ?_
    refine wv_getR fX8_48 dX8_ring_199 rfl (by first | assumption | rfl) (by first | exact hR _ _ _ rfl | assumption) ?_
    refine wv_iload_n dX8_ring_202 rfl ?_
    refine wv_aload_n dX8_ring_203 rfl ?_
    refine wv_getR fX8_39 dX8_ring_204 rfl (by first | assumption | rfl) (by first | exact hR _ _ _ rfl | assumption) ?_
    refine wv_iload_n dX8_ring_207 rfl ?_
    refine wv_ialdN dX8_ring_208 (by first | assumption | rfl) (by omega) (by decide) ?_
    rw [wr_uI_ne (by omega), hJ 64 (by omega) (by omega) (by omega)]
    refine wv_iastN dX8_ring_209 (by first | assumption | rfl) (by omega) (by decide) ?_
    refine wv_aload_n dX8_ring_210 rfl ?_
    refine wv_getR fX8_51 dX8_ring_211 rfl (by first | assumption | rfl) (by first | exact hR _ _ _ rfl | assumption) ?_
    refine wv_iload_n dX8_ring_214 rfl ?_
    refine wv_aload_n dX8_ring_215 rfl ?_
    refine wv_getR fX8_42 dX8_ring_216 rfl (by first | assumption | rfl) (by first | exact hR _ _ _ rfl | assumption) ?_
    refine wv_iload_n dX8_ring_219 rfl ?_
    refine wv_ialdN dX8_ring_220 (by first | assumption | rfl) (by omega) (by decide) ?_
    rw [wr_uI_ne (by omega), wr_uI_ne (by omega), hJ 65 (by omega) (by omega) (by omega)]
    refine wv_iastN dX8_ring_221 (by first | assumption | rfl) (by omega) (by decide) ?_
    refine wv_iinc (v := nI (i + 1)) dX8_ring_222 rfl (nI_1 (i)) (by decide) ?_
    refine wv_goto (tgt := 180) dX8_ring_225 (by decide) ?_
    refine wv_le (by simp [wr_leq, wr_s1, wr_s2, wr_wide]) (ih (i + 1) _ (by omega) (fun x hx => ?_) (fun b b1 b2 b3 => by rw [wr_uI_ne b3, wr_uI_ne b2, wr_uI_ne b1]; exact hJ b b1 b2 b3))
    by_cases e : x = i
    · subst e; simp [wr_uI]
    · rw [wr_uI_nk e, wr_uI_nk e, wr_uI_nk e, wr_uI_nk e, wr_uI_nk e, wr_uI_nk e, wr_uI_nk e, wr_uI_nk e, wr_uI_nk e]; exact h0 x (by omega)

set_option maxHeartbeats 4000000 in
set_option maxRecDepth 100000 in
theorem x_rg4 {l : Launch} {R : wr_TR} (hR : wr_RC R) (K : wr_TL) (Q : wr_TQ) (J0 : wr_TI) (n : Nat) (hn : n ≤ 259) (h44 : J0 55 44 = nI n) (hc : ∀ J, (∀ x, x < n → J 71 x = J0 69 x ∧ J 72 x = J0 70 x) → (∀ b, b ≠ 71 → b ≠ 72 → J b = J0 b) → wr_V l 6 mX8_ring 343 [some (.ref 55), none] [] SH J K R 0 0 Q) : ∀ (k i : Nat) (J : wr_TI), i + k = n → (∀ x, x < i → J 71 x = J0 69 x ∧ J 72 x = J0 70 x) → (∀ b, b ≠ 71 → b ≠ 72 → J b = J0 b) → wr_V l 6 mX8_ring 305 [some (.ref 55), some (.int (nI i))] [] SH J K R 0 0 Q := by
  intro k
  induction k with
  | zero =>
    intro i J hi h0 hJ
    obtain rfl : i = n := by omega
    refine wv_iload_n dX8_ring_305 rfl ?_
    refine wv_aload_n dX8_ring_306 rfl ?_
    refine wv_getI fX8_369 dX8_ring_307 rfl (by first | assumption | rfl) ?_
    rw [hJ 55 (by omega) (by omega), h44]
    refine wv_icmp_ge (tgt := 343) dX8_ring_310 (by decide) (fun h310 => ?_) (fun h310 => absurd (nI_le (by omega) (by omega)) h310)
    exact wv_le (by simp [wr_leq, wr_s1, wr_s2, wr_wide]) (hc J h0 hJ)
  | succ k ih =>
    intro i J hi h0 hJ
    refine wv_iload_n dX8_ring_305 rfl ?_
    refine wv_aload_n dX8_ring_306 rfl ?_
    refine wv_getI fX8_369 dX8_ring_307 rfl (by first | assumption | rfl) ?_
    rw [hJ 55 (by omega) (by omega), h44]
    refine wv_icmp_ge (tgt := 343) dX8_ring_310 (by decide) (fun h310 => absurd h310 (nI_ge (by omega) (by omega))) (fun h310 => ?_)
    refine wv_aload_n dX8_ring_313 rfl ?_
    refine wv_getR fX8_60 dX8_ring_314 rfl (by first | assumption | rfl) (by first | exact hR _ _ _ rfl | assumption) ?_
    refine wv_iload_n dX8_ring_317 rfl ?_
    refine wv_aload_n dX8_ring_318 rfl ?_
    refine wv_getR fX8_54 dX8_ring_319 rfl (by first | assumption | rfl) (by first | exact hR _ _ _ rfl | assumption) ?_
    refine wv_iload_n dX8_ring_322 rfl ?_
    refine wv_ialdN dX8_ring_323 (by first | assumption | rfl) (by omega) (by decide) ?_
    rw [hJ 69 (by omega) (by omega)]
    refine wv_iastN dX8_ring_324 (by first | assumption | rfl) (by omega) (by decide) ?_
    refine wv_aload_n dX8_ring_325 rfl ?_
    refine wv_getR fX8_63 dX8_ring_326 rfl (by first | assumption | rfl) (by first | exact hR _ _ _ rfl | assumption) ?_
    refine wv_iload_n dX8_ring_329 rfl ?_
    refine wv_aload_n dX8_ring_330 rfl ?_
    refine wv_getR fX8_57 dX8_ring_331 rfl (by first | assumption | rfl) (by first | exact hR _ _ _ rfl | assumption) ?_
    refine wv_iload_n dX8_ring_334 rfl ?_
    refine wv_ialdN dX8_ring_335 (by first | assumption | rfl) (by omega) (by decide) ?_
    rw [wr_uI_ne (by omega), hJ 70 (by omega) (by omega)]
    refine wv_iastN dX8_ring_336 (by first | assumption | rfl) (by omega) (by decide) ?_
    refine wv_iinc (v := nI (i + 1)) dX8_ring_337 rfl (nI_1 (i)) (by decide) ?_
    refine wv_goto (tgt := 305) dX8_ring_340 (by decide) ?_
    refine wv_le (by simp [wr_leq, wr_s1, wr_s2, wr_wide]) (ih (i + 1) _ (by omega) (fun x hx => ?_) (fun b b1 b2 => by rw [wr_uI_ne b2, wr_uI_ne b1]; exact hJ b b1 b2))
    by_cases e : x = i
    · subst e; simp [wr_uI]
    · rw [wr_uI_nk e, wr_uI_nk e, wr_uI_nk e, wr_uI_nk e]; exact h0 x (by omega)

set_option maxHeartbeats 4000000 in
set_option maxRecDepth 100000 in
theorem x_rg5 {l : Launch} {R : wr_TR} (hR : wr_RC R) (K : wr_TL) (Q : wr_TQ) (J0 : wr_TI) (hc : ∀ J, (∀ x, x < 3 → J 93 x = 0) → (∀ b, b ≠ 93 → J b = J0 b) → wr_V l 6 mX8_ring 372 [some (.ref 55), none] [] SH J K R 0 0 Q) : ∀ (k i : Nat) (J : wr_TI), i + k = 3 → (∀ x, x < i → J 93 x = 0) → (∀ b, b ≠ 93 → J b = J0 b) → wr_V l 6 mX8_ring 354 [some (.ref 55), some (.int (nI i))] [] SH J K R 0 0 Q := by
  intro k
  induction k with
  | zero =>
    intro i J hi h0 hJ
    obtain rfl : i = 3 := by omega
    refine wv_iload_n dX8_ring_354 rfl ?_
    refine wv_iconst (v := 3) dX8_ring_355 (by decide) ?_
    refine wv_icmp_ge (tgt := 372) dX8_ring_356 (by decide) (fun h356 => ?_) (fun h356 => absurd (nI_le (a := 3) (by omega) (by omega)) h356)
    exact wv_le (by simp [wr_leq, wr_s1, wr_s2, wr_wide]) (hc J h0 hJ)
  | succ k ih =>
    intro i J hi h0 hJ
    have ev : vp_nar .boolean 0 = 0 := rfl
    refine wv_iload_n dX8_ring_354 rfl ?_
    refine wv_iconst (v := 3) dX8_ring_355 (by decide) ?_
    refine wv_icmp_ge (tgt := 372) dX8_ring_356 (by decide) (fun h356 => absurd h356 (nI_ge (b := 3) (by omega) (by omega))) (fun h356 => ?_)
    refine wv_aload_n dX8_ring_359 rfl ?_
    refine wv_getR fX8_130 dX8_ring_360 rfl (by first | assumption | rfl) (by first | exact hR _ _ _ rfl | assumption) ?_
    refine wv_iload_n dX8_ring_363 rfl ?_
    refine wv_iconst (v := 0) dX8_ring_364 (by decide) ?_
    refine wv_zastN dX8_ring_365 (by first | assumption | rfl) (by omega) (by decide) ?_
    refine wv_iinc (v := nI (i + 1)) dX8_ring_366 rfl (nI_1 (i)) (by decide) ?_
    refine wv_goto (tgt := 354) dX8_ring_369 (by decide) ?_
    refine wv_le (by simp [wr_leq, wr_s1, wr_s2, wr_wide]) (ih (i + 1) _ (by omega) (fun x hx => ?_) (fun b b1 => by rw [wr_uI_ne b1]; exact hJ b b1))
    by_cases e : x = i
    · subst e; simp [wr_uI, ev]
    · rw [wr_uI_nk e]; exact h0 x (by omega)

