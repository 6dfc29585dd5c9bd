/-! ring, in the class -/
theorem RC_W {R : wr_TR} {k x : Nat} (hk : k = 1 ∨ k = 2) (hR : wr_RC R) : wr_RC (wr_uR R 0 k x) := fun j q r h => by
  simp only [wr_uR]
  rw [if_neg (by rintro ⟨rfl, rfl⟩; rcases hk with rfl | rfl <;> simp [wr_cr] at h)]
  exact hR j q r h
def rgQ (I : wr_TI) (L : wr_TL) (t u : Nat) (r : XR) : wr_TQ := fun v s' I' L' R' => s' = SH ∧ wr_RC R' ∧ I' 1 1 = 0 ∧ (∀ b, 55 ≤ b → I' b = I b) ∧ (∀ b, 55 ≤ b → L' b = L b) ∧ match r with
  | .inl s => v = some (.int (nI (gN s.2.1))) ∧ R' 0 1 = u + 1 ∧ R' 0 2 = t + 1 ∧ rgW I' L' u s.2.1 ∧ I' (u + 1) 3 = nI s.2.2.1 ∧ crF I' L' 18 s.2.1 (S0 s.2.1, (fun _ => 0), I 18 8) ∧ I' 30 6 = 0 ∧ I' 30 7 = I 30 7 ∧ (∀ b, b < 3 → I' 29 b = 0) ∧ I' 17 9 = 0 ∧ I' 17 10 = -1
  | .inr e => v = some (.int (-1)) ∧ R' 0 1 = t + 1 ∧ R' 0 2 = u + 1 ∧ fal I' e ∧ (∀ b, b ≠ 1 → b ≠ 17 → (b < u ∨ u + 6 < b ∨ b = u + 3) → I' b = I b) ∧ ∀ b, b ≠ u → L' b = L b
set_option maxHeartbeats 4000000 in
set_option maxRecDepth 100000 in
theorem cW_ring {l : Launch} {I : wr_TI} {L : wr_TL} {R : wr_TR} {T : TP} (t u : Nat) (htu : (t = 3 ∧ u = 10) ∨ (t = 10 ∧ u = 3)) (hR : wr_RC R) (hto : R 0 1 = t + 1) (hsp : R 0 2 = u + 1) (hT : tpV I T) (r : XR) (N : Nat) (hN : N = 801) (hr : lText T N (x0 T (gI I u)) = r) : wr_P l 64 mX7_ring [.ref 0] SH I L R (rgQ I L t u r) := by
  have hu : u = 3 ∨ u = 10 := by omega
  have gu : SH[u]? = some (.inr 5) := by rcases hu with rfl | rfl <;> rfl
  have lp : ∀ (J : wr_TI) (K : wr_TL) (R1 : wr_TR), wr_RC R1 → R1 0 1 = u + 1 → R1 0 2 = t + 1 → ∀ s : XS, r = .inl s → J 1 1 = 0 → (∀ b, 55 ≤ b → J b = I b) → (∀ b, 55 ≤ b → K b = L b) → rgW J K u s.2.1 → J (u + 1) 3 = nI s.2.2.1 → crF J K 18 s.2.1 (S0 s.2.1, (fun _ => 0), I 18 8) → J 30 6 = 0 → J 30 7 = I 30 7 → J 17 9 = 0 → J 17 10 = -1 → ∀ (k i : Nat) (J2 : wr_TI), i + k = 3 → (∀ b, b ≠ 29 → J2 b = J b) → (∀ b, b < i → J2 29 b = 0) → wr_V l 64 mX7_ring 60 [some (.ref 0), none, none, some (.int (nI i))] [] SH J2 K R1 0 0 (rgQ I L t u r) := by
    intro J K R1 hR hto1 hsp1 s hrs h11 hb1 hb2 hV hun hF h306 h307 h9 h10 k
    subst hrs
    induction k with
    | zero =>
      intro i J2 hi hJ h0
      obtain rfl : i = 3 := by omega
      refine wv_iload_n dX7_ring_60 rfl ?_
      refine wv_aload_n dX7_ring_61 rfl ?_
      refine wv_getR fX7_49 dX7_ring_62 rfl (by first | assumption | rfl) (by first | exact hR _ _ _ rfl | assumption) ?_
      refine wv_alen dX7_ring_65 (t := 2) (by decide) (by first | assumption | rfl) ?_
      refine wv_icmp_ge (tgt := 82) dX7_ring_66 (by decide) (fun h66 => ?_) (fun h66 => absurd (nI_le (Nat.le_refl _) (by omega)) h66)
      refine wv_aload_n dX7_ring_82 rfl ?_
      refine wv_getR fX7_19 dX7_ring_83 rfl (by first | assumption | rfl) (by first | exact hR _ _ _ rfl | assumption) ?_
      refine wv_getI fX7_94 dX7_ring_86 rfl (by first | assumption | rfl) ?_
      refine wv_iret rfl dX7_ring_89 ?_
      refine ⟨rfl, hR, by rw [hJ 1 (by omega)]; exact h11, fun b hb => by rw [hJ b (by omega)]; exact hb1 b hb, hb2, ?_, hto1, hsp1, rgW_fr hV (fun a a1 a2 _ => hJ a (by omega)), by rw [hJ _ (by omega)]; exact hun, ?_, by rw [hJ 30 (by omega)]; exact h306, by rw [hJ 30 (by omega)]; exact h307, h0, by rw [hJ 17 (by omega)]; exact h9, by rw [hJ 17 (by omega)]; exact h10⟩
      · rw [hJ u (by omega), hV.1]
      · exact ⟨crV_fr hF.1 (hJ 18 (by omega)) (hJ (18 + 1) (by omega)) (hJ (18 + 2) (by omega)), fun k hk => by rw [hJ (18 + 3) (by omega)]; exact hF.2.1 k hk, by rw [hJ 18 (by omega)]; exact hF.2.2⟩
    | succ k ih =>
      intro i J2 hi hJ h0
      refine wv_iload_n dX7_ring_60 rfl ?_
      refine wv_aload_n dX7_ring_61 rfl ?_
      refine wv_getR fX7_49 dX7_ring_62 rfl (by first | assumption | rfl) (by first | exact hR _ _ _ rfl | assumption) ?_
      refine wv_alen dX7_ring_65 (t := 2) (by decide) (by first | assumption | rfl) ?_
      refine wv_icmp_ge (tgt := 82) dX7_ring_66 (by decide) (fun h66 => absurd h66 (nI_ge (b := 3) (by omega) (by omega))) (fun h66 => ?_)
      refine wv_aload_n dX7_ring_69 rfl ?_
      refine wv_getR fX7_49 dX7_ring_70 rfl (by first | assumption | rfl) (by first | exact hR _ _ _ rfl | assumption) ?_
      refine wv_iload_n dX7_ring_73 rfl ?_
      refine wv_iconst (v := 0) dX7_ring_74 (by decide) ?_
      refine wv_zastN dX7_ring_75 (by first | assumption | rfl) (by omega) (by decide) ?_
      refine wv_iinc (v := nI (i + 1)) dX7_ring_76 rfl (nI_1 (i)) (by decide) ?_
      refine wv_goto (tgt := 60) dX7_ring_79 (by decide) ?_
      refine wv_le (by simp [wr_leq, wr_s1, wr_s2, wr_wide]) (ih (i + 1) _ (by omega) (fun b hb => by rw [wr_uI_ne hb]; exact hJ b hb) (fun b hb => ?_))
      have ev : vp_nar .boolean 0 = 0 := rfl
      by_cases hbi : b = i
      · subst hbi; simp [wr_uI, ev]
      · simp only [wr_uI, hbi, and_false, if_false]; exact h0 b (by omega)
  refine wv_pad 3 ?_
  show wr_V l 64 mX7_ring 0 [some (.ref 0), none, none, none] [] SH I L R 0 0 _
  refine wv_aload_n dX7_ring_0 rfl ?_
  refine wv_getR fX7_31 dX7_ring_1 rfl (by first | assumption | rfl) (by first | exact hR _ _ _ rfl | assumption) ?_
  refine wv_aload_n dX7_ring_4 rfl ?_
  refine wv_getR fX7_23 dX7_ring_5 rfl (by first | assumption | rfl) (by first | exact hR _ _ _ rfl | assumption) ?_
  refine wv_v1 oX4_readInto kX7_84 dX7_ring_8 (by omega) (by first | assumption | rfl) ⟨rfl, by decide⟩ (Nat.le_of_ble_eq_true rfl) (Nat.le_of_ble_eq_true rfl) (cD_into (l := l) (L := L) hR hu hT r N hN hr) (fun v9 s9 J9 L9 R9 h9 => ?_)
  cases r with
  | inr e =>
    obtain ⟨rfl, rfl, hf9, rfl, hfa⟩ := h9
    have hR9 := RC_17 (t := u) hR
    have e01 : wr_uR R 17 1 (u + 1) 0 1 = t + 1 := by simp [wr_uR, hto]
    have e02 : wr_uR R 17 1 (u + 1) 0 2 = u + 1 := by simp [wr_uR, hsp]
    generalize wr_uR R 17 1 (u + 1) = R9 at hR9 e01 e02
    clear hR
    have hR := hR9
    refine wv_istore_k (i := 1) dX7_ring_11 rfl (by decide) ?_
    refine wv_aload_n dX7_ring_12 rfl ?_
    refine wv_getR fX7_12 dX7_ring_13 rfl (by first | assumption | rfl) (by first | exact hR _ _ _ rfl | assumption) ?_
    refine wv_iconst (v := 0) dX7_ring_16 (by decide) ?_
    refine wv_putI fX7_76 dX7_ring_17 rfl rfl rfl rfl (by first | assumption | rfl) ?_
    refine wv_iload_n dX7_ring_20 rfl ?_
    refine wv_if_ne (tgt := 26) dX7_ring_21 (by decide) (fun h21 => absurd rfl h21) (fun h21 => ?_)
    refine wv_iconst (v := (-1)) dX7_ring_24 (by decide) ?_
    refine wv_iret rfl dX7_ring_25 ?_
    refine ⟨rfl, hR9, by simp [wr_uI], fun b hb => by rw [wr_uI_ne (by omega)]; exact hf9.1 b (by omega) (by omega), fun b hb => hf9.2 b (by omega), rfl, e01, e02, ⟨by rw [wr_uI_ne (by omega)]; exact hfa.1, by rw [wr_uI_ne (by omega)]; exact hfa.2⟩, fun b b1 b2 b3 => by rw [wr_uI_ne b1]; exact hf9.1 b b2 b3, hf9.2⟩
  | inl s =>
    obtain ⟨rfl, rfl, hf9, rfl, hs9, -, h9, h10⟩ := h9
    have hR9 := RC_17 (t := u) hR
    have e01 : wr_uR R 17 1 (u + 1) 0 1 = t + 1 := by simp [wr_uR, hto]
    have e02 : wr_uR R 17 1 (u + 1) 0 2 = u + 1 := by simp [wr_uR, hsp]
    generalize wr_uR R 17 1 (u + 1) = R9 at hR9 e01 e02
    clear hR
    have hR := hR9
    have f02 : wr_uR R9 0 1 (u + 1) 0 2 = u + 1 := by simp [wr_uR, e02]
    have hRb := RC_W (k := 2) (x := t + 1) (by omega) (RC_W (k := 1) (x := u + 1) (by omega) hR9)
    have hcR := isC_18 hRb
    refine wv_istore_k (i := 1) dX7_ring_11 rfl (by decide) ?_
    refine wv_aload_n dX7_ring_12 rfl ?_
    refine wv_getR fX7_12 dX7_ring_13 rfl (by first | assumption | rfl) (by first | exact hR _ _ _ rfl | assumption) ?_
    refine wv_iconst (v := 0) dX7_ring_16 (by decide) ?_
    refine wv_putI fX7_76 dX7_ring_17 rfl rfl rfl rfl (by first | assumption | rfl) ?_
    refine wv_iload_n dX7_ring_20 rfl ?_
    refine wv_if_ne (tgt := 26) dX7_ring_21 (by decide) (fun h21 => ?_) (fun h21 => absurd h21 (by decide))
    refine wv_aload_n dX7_ring_26 rfl ?_
    refine wv_getR fX7_19 dX7_ring_27 rfl (by first | assumption | rfl) (by first | exact hR _ _ _ rfl | assumption) ?_
    refine wv_astore_k (i := 2) dX7_ring_30 rfl (by decide) ?_
    refine wv_aload_n dX7_ring_31 rfl ?_
    refine wv_aload_n dX7_ring_32 rfl ?_
    refine wv_getR fX7_23 dX7_ring_33 rfl (by first | assumption | rfl) (by first | exact hR _ _ _ rfl | assumption) ?_
    refine wv_putR fX7_19 dX7_ring_36 rfl rfl (by first | assumption | rfl) ?_
    refine wv_aload_n dX7_ring_39 rfl ?_
    refine wv_aload_n dX7_ring_40 rfl ?_
    refine wv_putR fX7_23 dX7_ring_41 rfl rfl (by first | assumption | rfl) ?_
    refine wv_aload_n dX7_ring_44 rfl ?_
    refine wv_getR fX7_38 dX7_ring_45 rfl (by first | assumption | rfl) (hRb _ _ _ rfl) ?_
    refine wv_v0u oX0_freshen kX7_88 dX7_ring_48 (by omega) (by first | assumption | rfl) ⟨rfl, by decide⟩ (Nat.le_of_ble_eq_true rfl) (Nat.le_of_ble_eq_true rfl) (cC_freshen 18 hcR) ?_
    refine wv_aload_n dX7_ring_51 rfl ?_
    refine wv_getR fX7_56 dX7_ring_52 rfl (by first | assumption | rfl) (hRb _ _ _ rfl) ?_
    refine wv_v0u oX1_forget kX7_91 dX7_ring_55 (by omega) (by first | assumption | rfl) ⟨rfl, by decide⟩ (Nat.le_of_ble_eq_true rfl) (Nat.le_of_ble_eq_true rfl) cF_forget ?_
    refine wv_iconst (v := nI 0) dX7_ring_58 rfl ?_
    refine wv_istore_k (i := 3) dX7_ring_59 rfl (by decide) ?_
    have z17 : ∀ b, b ≠ 18 → b ≠ 18 + 1 → b ≠ 18 + 2 → b ≠ 18 + 3 → b ≠ 30 → b ≠ 1 → wr_uI (zI (wr_uI J9 1 1 0) 18) 30 6 0 b = J9 b := fun b b1 b2 b3 b4 b5 b6 => by
      rw [wr_uI_ne b5]
      funext d
      simp only [zI]
      rw [if_neg (by omega), wr_uI_ne b6]
    have z30 : ∀ k, k ≠ 6 → wr_uI (zI (wr_uI J9 1 1 0) 18) 30 6 0 30 k = J9 30 k := fun k hk => by
      simp only [wr_uI, zI, hk]
      simp
    have zL18 : ∀ b, b ≠ 18 → zL L9 18 b = L9 b := fun b hb => by funext d; simp [zL, hb]
    have hd8 : J9 18 8 = I 18 8 := by rw [hf9.1 18 (by omega) (by omega)]
    have hfr : crF (wr_uI (zI (wr_uI J9 1 1 0) 18) 30 6 0) (zL L9 18) 18 s.2.1 (S0 s.2.1, (fun _ => 0), I 18 8) := by
      have hc := crV_fresh (I := wr_uI J9 1 1 0) (L := L9) (c := 18) (g := s.2.1)
      refine ⟨crV_fr hc (wr_uI_ne (by omega)) (wr_uI_ne (by omega)) (wr_uI_ne (by omega)), fun k hk => ?_, ?_⟩
      · rw [wr_uI_ne (by omega)]; simp [zI, hk]
      · rw [wr_uI_ne (by omega), ← hd8]; simp [zI, wr_uI]
    refine wv_le (by simp [wr_leq, wr_s1, wr_s2, wr_wide]) (lp _ (zL L9 18) _ hRb (by simp [wr_uR]) (by simp [wr_uR]) s rfl ?_ (fun b hb => ?_) (fun b hb => ?_) ?_ ?_ hfr ?_ ?_ ?_ ?_ 3 0 _ (by omega) (fun _ _ => rfl) (fun b hb => by omega))
    · rw [wr_uI_ne (by omega)]; simp [zI, wr_uI]
    · rw [z17 b (by omega) (by omega) (by omega) (by omega) (by omega) (by omega)]; exact hf9.1 b (by omega) (by omega)
    · rw [zL18 b (by omega)]; exact hf9.2 b (by omega)
    · have hW := rgW_fr (I' := wr_uI (zI (wr_uI J9 1 1 0) 18) 30 6 0) hs9.2.2.1 (fun a a1 a2 a3 => z17 a (by omega) (by omega) (by omega) (by omega) (by omega) (by omega))
      unfold rgW at hW ⊢
      rw [zL18 u (by omega)]
      exact hW
    · rw [z17 (u + 1) (by omega) (by omega) (by omega) (by omega) (by omega) (by omega)]; exact hs9.2.2.2.1
    · simp [wr_uI]
    · rw [z30 7 (by omega), hf9.1 30 (by omega) (by omega)]
    · rw [z17 17 (by omega) (by omega) (by omega) (by omega) (by omega) (by omega)]; exact h9
    · rw [z17 17 (by omega) (by omega) (by omega) (by omega) (by omega) (by omega)]; exact h10

