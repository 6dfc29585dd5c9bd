/-! lives, fewest, best, jumps, meet -/
def tN (x : Int32) : Nat := x.toNatClampNeg
abbrev oS (g : RG) (x : Int32) : Prop := 0 ≤ x ∧ x < nI (gN g)
abbrev oM (g : RG) (k : Int32) : Prop := 1 ≤ k ∧ k ≤ 12 ∧ k ≤ nI (gN g)
theorem ix_of {x : Int32} {n : Nat} (h : 0 ≤ x ∧ x < nI n) (hn : n < 2 ^ 31) : ∃ a, a < n ∧ x = nI a := by
  rcases pk_ix x hn with h1 | h1 | ⟨j, hj, e⟩
  · exact absurd h1 (Int32.not_lt.mpr h.1)
  · exact absurd h.2 (Int32.not_lt.mpr h1)
  · exact ⟨j, hj, e⟩
theorem mk_of {g : RG} {k : Int32} (h : oM g k) (hn : gN g ≤ 40) : ∃ a, 1 ≤ a ∧ a ≤ 12 ∧ a ≤ gN g ∧ k = nI a := by
  obtain ⟨h1, h2, h3⟩ := h
  obtain ⟨a, ha, rfl⟩ := nI_of2 (M := 12) (n := 12) (x := k) rfl (by grind) h2
  exact ⟨a, (nI_leI (a := 1) (by omega) (by omega)).mp h1, ha, (nI_leI (by omega) (by omega)).mp h3, rfl⟩
theorem oS_nI {g : RG} {a : Nat} (ha : a < gN g) (hn : gN g ≤ 40) : oS g (nI a) := ⟨nI_pos' (by omega), nI_lt ha (by omega)⟩
theorem oM_nI {g : RG} {a : Nat} (h1 : 1 ≤ a) (h2 : a ≤ 12) (h3 : a ≤ gN g) (hn : gN g ≤ 40) : oM g (nI a) := ⟨nI_le (a := 1) h1 (by omega), nI_le (b := 12) h2 (by omega), nI_le h3 (by omega)⟩
theorem tN_nI {a : Nat} (h : a < 2 ^ 31) : tN (nI a) = a := nI_clamp h
theorem if10 {p : Prop} [Decidable p] : (if p then (1 : Int32) else 0) = 0 ↔ ¬ p := by by_cases h : p <;> simp [h]
def aLives (g : RG) (x k : Int32) : Int32 := if oS g x ∧ oM g k then nI (life g (sfB (gN g) (tN x) (tN k)) (gD g)) else -1
set_option maxHeartbeats 4000000 in
set_option maxRecDepth 100000 in
theorem cW_lives {l : Launch} {I : wr_TI} {L : wr_TL} {R : wr_TR} (hR : wr_RC R) (t : Nat) (ht : t = 3 ∨ t = 10) (hto : R 0 1 = t + 1) (g : RG) (hV : rgV I L t g) (x k : Int32) : wr_P l 7 mX7_lives [.ref 0, .int x, .int k] SH I L R (fun v s' I' L' R' => v = some (.int (aLives g x k)) ∧ s' = SH ∧ R' = R ∧ frD t I L I' L') := by
  have hg := isG_of hR ht
  have hc := isC_18 hR
  have hd := isC_23 hR
  obtain ⟨-, g0, -⟩ := id hg
  have hn := hV.1
  have hn6 := hV.2.1
  have hn40 := hV.2.2.1
  refine wv_pad 0 ?_
  show wr_V l 7 mX7_lives 0 [some (.ref 0), some (.int x), some (.int k)] [] SH I L R 0 0 _
  refine wv_aload_n dX7_lives_0 rfl ?_
  refine wv_getR fX7_19 dX7_lives_1 rfl (by first | assumption | rfl) (by first | exact hR _ _ _ rfl | assumption) ?_
  refine wv_iload_n dX7_lives_4 rfl ?_
  refine wv_v1e oX5_has kX7_125 dX7_lives_5 (by omega) (by first | assumption | rfl) ⟨rfl, by decide⟩ (Nat.le_of_ble_eq_true rfl) (Nat.le_of_ble_eq_true rfl) (cR_has t _ g0) ?_
  refine wv_if_eq (tgt := 19) dX7_lives_8 (by decide) (fun h8 => ?_) (fun h8 => ?_)
  · rw [hn, if10] at h8
    refine wv_iconst (v := (-1)) dX7_lives_19 (by decide) ?_
    refine wv_iret rfl dX7_lives_20 ?_
    refine ⟨?_, rfl, rfl, frD_rf⟩
    unfold aLives
    rw [if_neg]
    grind
  · rw [hn, if10] at h8
    have hx : oS g x := Decidable.not_not.mp h8
    refine wv_aload_n dX7_lives_11 rfl ?_
    refine wv_iload_n dX7_lives_12 rfl ?_
    refine wv_v1e oX7_canTry kX7_177 dX7_lives_13 (by omega) (by first | assumption | rfl) ⟨rfl, by decide⟩ (Nat.le_of_ble_eq_true rfl) (Nat.le_of_ble_eq_true rfl) (cW_canTry hR t ht hto g hV _) ?_
    refine wv_if_ne (tgt := 21) dX7_lives_16 (by decide) (fun h16 => ?_) (fun h16 => ?_)
    · rw [if10] at h16
      have hk : oM g k := Decidable.not_not.mp h16
      obtain ⟨a, ha, rfl⟩ := ix_of hx (by omega)
      obtain ⟨b, hb1, hb2, hb3, rfl⟩ := mk_of hk hn40
      refine wv_aload_n dX7_lives_21 rfl ?_
      refine wv_aload_n dX7_lives_22 rfl ?_
      refine wv_getR fX7_19 dX7_lives_23 rfl (by first | assumption | rfl) (by first | exact hR _ _ _ rfl | assumption) ?_
      refine wv_iload_n dX7_lives_26 rfl ?_
      refine wv_iload_n dX7_lives_27 rfl ?_
      refine wv_v2e oX5_seatsFrom kX7_180 dX7_lives_28 (by omega) (by first | assumption | rfl) ⟨rfl, by decide⟩ (Nat.le_of_ble_eq_true rfl) (Nat.le_of_ble_eq_true rfl) (cR_from t _ _ g0) ?_
      refine wv_aload_n dX7_lives_31 rfl ?_
      refine wv_getR fX7_19 dX7_lives_32 rfl (by first | assumption | rfl) (by first | exact hR _ _ _ rfl | assumption) ?_
      refine wv_getL fX7_143 dX7_lives_35 rfl (by first | assumption | rfl) ?_
      refine wv_v2 oX7_lifeOf kX7_184 dX7_lives_38 (by omega) (by first | assumption | rfl) ⟨rfl, by decide⟩ (Nat.le_of_ble_eq_true rfl) (Nat.le_of_ble_eq_true rfl) (cW_lifeOf hR t ht hto g hV _ _ (gD g) hV.2.2.2.2.1 (fun s hs => by rw [hn, sf_lb hn40 (by omega) ha (by omega)]; exact sfB_ge hs)) (fun v9 s9 J9 L9 R9 h9 => ?_)
      obtain ⟨rfl, rfl, rfl, hf9⟩ := h9
      refine wv_iret rfl dX7_lives_41 ?_
      refine ⟨?_, rfl, rfl, hf9⟩
      unfold aLives
      rw [if_pos ⟨hx, hk⟩, hn, sf_lb hn40 (by omega) ha (by omega), tN_nI (by omega), tN_nI (by omega)]
    · rw [if10] at h16
      refine wv_iconst (v := (-1)) dX7_lives_19 (by decide) ?_
      refine wv_iret rfl dX7_lives_20 ?_
      refine ⟨?_, rfl, rfl, frD_rf⟩
      unfold aLives
      rw [if_neg]
      grind

def fwG (g : RG) (a : Nat) : Nat → Nat → Int32
  | 0, _ => -1
  | r + 1, k => if k ≤ gN g then (if life g (sfB (gN g) a k) (gD g) = 200 then nI k else fwG g a r (k + 1)) else -1
def aFewest (g : RG) (x : Int32) : Int32 := if oS g x then fwG g (tN x) 12 1 else -1
theorem life_le (g : RG) (W dr : Nat → Bool) : life g W dr ≤ 200 := by
  have : ∀ k S, lv g dr k S ≤ k := by
    intro k
    induction k with
    | zero => intro S; exact Nat.le_refl _
    | succ k ih => intro S; simp only [lv]; split
                   · omega
                   · have := ih (stp g (wnt g dr S) S); omega
  exact this 200 _
set_option maxHeartbeats 4000000 in
set_option maxRecDepth 100000 in
theorem cW_fewest {l : Launch} {I : wr_TI} {L : wr_TL} {R : wr_TR} (hR : wr_RC R) (t : Nat) (ht : t = 3 ∨ t = 10) (hto : R 0 1 = t + 1) (g : RG) (hV : rgV I L t g) (x : Int32) : wr_P l 7 mX7_fewest [.ref 0, .int x] SH I L R (fun v s' I' L' R' => v = some (.int (aFewest g x)) ∧ s' = SH ∧ R' = R ∧ frD t I L I' L') := by
  have hg := isG_of hR ht
  have hc := isC_18 hR
  have hd := isC_23 hR
  obtain ⟨-, g0, -⟩ := id hg
  have hn := hV.1
  have hn6 := hV.2.1
  have hn40 := hV.2.2.1
  have lp : ∀ (a : Nat), a < gN g → ∀ (k i : Nat) (J : wr_TI) (K : wr_TL), i + k = 13 → 1 ≤ i → rgV J K t g → frD t I L J K → wr_V l 7 mX7_fewest 15 [some (.ref 0), some (.int (nI a)), some (.int (nI i))] [] SH J K R 0 0 (fun v s' I' L' R' => v = some (.int (fwG g a k i)) ∧ s' = SH ∧ R' = R ∧ frD t I L I' L') := by
    intro a ha k
    induction k with
    | zero =>
      intro i J K hi h1 hVJ hf
      refine wv_iload_n dX7_fewest_15 rfl ?_
      refine wv_bipush (v := 12) dX7_fewest_16 (by decide) ?_
      refine wv_icmp_gt (tgt := 63) dX7_fewest_18 (by decide) (fun h18 => ?_) (fun h18 => absurd (nI_lt (a := 12) (by omega) (by omega)) h18)
      refine wv_iconst (v := (-1)) dX7_fewest_63 (by decide) ?_
      refine wv_iret rfl dX7_fewest_64 ?_
      exact ⟨rfl, rfl, rfl, hf⟩
    | succ k ih =>
      intro i J K hi h1 hVJ hf
      have hnJ := hVJ.1
      refine wv_iload_n dX7_fewest_15 rfl ?_
      refine wv_bipush (v := 12) dX7_fewest_16 (by decide) ?_
      refine wv_icmp_gt (tgt := 63) dX7_fewest_18 (by decide) (fun h18 => absurd h18 (nI_nlt (a := 12) (by omega) (by omega))) (fun h18 => ?_)
      refine wv_aload_n dX7_fewest_21 rfl ?_
      refine wv_iload_n dX7_fewest_22 rfl ?_
      refine wv_v1e oX7_canTry kX7_177 dX7_fewest_23 (by omega) (by first | assumption | rfl) ⟨rfl, by decide⟩ (Nat.le_of_ble_eq_true rfl) (Nat.le_of_ble_eq_true rfl) (cW_canTry hR t ht hto g hVJ _) ?_
      refine wv_if_eq (tgt := 63) dX7_fewest_26 (by decide) (fun h26 => ?_) (fun h26 => ?_)
      · rw [if10] at h26
        have hk : ¬ i ≤ gN g := fun q => h26 (oM_nI h1 (by omega) q hn40)
        refine wv_iconst (v := (-1)) dX7_fewest_63 (by decide) ?_
        refine wv_iret rfl dX7_fewest_64 ?_
        refine ⟨?_, rfl, rfl, hf⟩
        simp [fwG, hk]
      · rw [if10] at h26
        have hk : i ≤ gN g := (nI_leI (by omega) (by omega)).mp (Decidable.not_not.mp h26).2.2
        refine wv_aload_n dX7_fewest_29 rfl ?_
        refine wv_aload_n dX7_fewest_30 rfl ?_
        refine wv_getR fX7_19 dX7_fewest_31 rfl (by first | assumption | rfl) (by first | exact hR _ _ _ rfl | assumption) ?_
        refine wv_iload_n dX7_fewest_34 rfl ?_
        refine wv_iload_n dX7_fewest_35 rfl ?_
        refine wv_v2e oX5_seatsFrom kX7_180 dX7_fewest_36 (by omega) (by first | assumption | rfl) ⟨rfl, by decide⟩ (Nat.le_of_ble_eq_true rfl) (Nat.le_of_ble_eq_true rfl) (cR_from t _ _ g0) ?_
        refine wv_aload_n dX7_fewest_39 rfl ?_
        refine wv_getR fX7_19 dX7_fewest_40 rfl (by first | assumption | rfl) (by first | exact hR _ _ _ rfl | assumption) ?_
        refine wv_getL fX7_143 dX7_fewest_43 rfl (by first | assumption | rfl) ?_
        refine wv_v2 oX7_lifeOf kX7_184 dX7_fewest_46 (by omega) (by first | assumption | rfl) ⟨rfl, by decide⟩ (Nat.le_of_ble_eq_true rfl) (Nat.le_of_ble_eq_true rfl) (cW_lifeOf hR t ht hto g hVJ _ _ (gD g) hVJ.2.2.2.2.1 (fun s hs => by rw [hnJ, sf_lb hn40 (by omega) ha (by omega)]; exact sfB_ge hs)) (fun v9 s9 J9 L9 R9 h9 => ?_)
        obtain ⟨rfl, rfl, rfl, hf9⟩ := h9
        refine wv_sipush (v := 200) dX7_fewest_49 (by decide) ?_
        refine wv_icmp_ne (tgt := 57) dX7_fewest_52 (by decide) (fun h52 => ?_) (fun h52 => ?_)
        · have h52n : ¬ life g (sfB (gN g) a i) (gD g) = 200 := fun q => h52 (by rw [hnJ, sf_lb hn40 (by omega) ha (by omega), q]; rfl)
          refine wv_iinc (v := nI (i + 1)) dX7_fewest_57 rfl (nI_1 (i)) (by decide) ?_
          refine wv_goto (tgt := 15) dX7_fewest_60 (by decide) ?_
          have e : fwG g a (k + 1) i = fwG g a k (i + 1) := by simp [fwG, hk, h52n]
          rw [e]
          exact wv_le (by simp [wr_leq, wr_s1, wr_s2, wr_wide]) (ih (i + 1) J9 L9 (by omega) (by omega) (frD_V ht hf9 hVJ) (frD_tr hf hf9))
        · have h52n : life g (sfB (gN g) a i) (gD g) = 200 := by
            rw [hnJ, sf_lb hn40 (by omega) ha (by omega)] at h52
            exact (nI_eq (b := 200) (by have := life_le g (sfB (gN g) a i) (gD g); omega) (by omega)).mp h52
          refine wv_iload_n dX7_fewest_55 rfl ?_
          refine wv_iret rfl dX7_fewest_56 ?_
          refine ⟨?_, rfl, rfl, frD_tr hf hf9⟩
          simp [fwG, hk, h52n]
  refine wv_pad 1 ?_
  show wr_V l 7 mX7_fewest 0 [some (.ref 0), some (.int x), none] [] SH I L R 0 0 _
  refine wv_aload_n dX7_fewest_0 rfl ?_
  refine wv_getR fX7_19 dX7_fewest_1 rfl (by first | assumption | rfl) (by first | exact hR _ _ _ rfl | assumption) ?_
  refine wv_iload_n dX7_fewest_4 rfl ?_
  refine wv_v1e oX5_has kX7_125 dX7_fewest_5 (by omega) (by first | assumption | rfl) ⟨rfl, by decide⟩ (Nat.le_of_ble_eq_true rfl) (Nat.le_of_ble_eq_true rfl) (cR_has t _ g0) ?_
  refine wv_if_ne (tgt := 13) dX7_fewest_8 (by decide) (fun h8 => ?_) (fun h8 => ?_)
  · rw [hn, if10] at h8
    have hx : oS g x := Decidable.not_not.mp h8
    obtain ⟨a, ha, rfl⟩ := ix_of hx (by omega)
    refine wv_iconst (v := nI 1) dX7_fewest_13 rfl ?_
    refine wv_istore_k (i := 2) dX7_fewest_14 rfl (by decide) ?_
    have := lp a ha 12 1 I L (by omega) (by omega) hV frD_rf
    unfold aFewest
    rw [if_pos hx, tN_nI (by omega)]
    exact wv_le (by simp [wr_leq, wr_s1, wr_s2, wr_wide]) (this)
  · rw [hn, if10] at h8
    refine wv_iconst (v := (-1)) dX7_fewest_11 (by decide) ?_
    refine wv_iret rfl dX7_fewest_12 ?_
    refine ⟨?_, rfl, rfl, frD_rf⟩
    unfold aFewest
    rw [if_neg h8]

