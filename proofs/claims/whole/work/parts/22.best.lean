/-! best, jumps -/
def bsG (g : RG) (k : Nat) : Nat → Nat → Int32 × Int32 → Int32 × Int32
  | 0, _, p => p
  | r + 1, x, p => bsG g k r (x + 1) (if nI (life g (sfB (gN g) x k) (gD g)) ≤ p.2 then p else (nI x, nI (life g (sfB (gN g) x k) (gD g))))
def aBest (g : RG) (k what : Int32) : Int32 := if oM g k ∧ 0 ≤ what ∧ what ≤ 1 then (if what = 0 then (bsG g (tN k) (gN g) 0 (0, -1)).1 else (bsG g (tN k) (gN g) 0 (0, -1)).2) else -1
theorem bs_stop {g : RG} {k : Nat} : ∀ (r x : Nat) (p : Int32 × Int32), 200 ≤ p.2 → bsG g k r x p = p := by
  intro r
  induction r with
  | zero => intro x p _; rfl
  | succ r ih =>
    intro x p hp
    have h1 : nI (life g (sfB (gN g) x k) (gD g)) ≤ p.2 := Int32.le_trans (nI_le (b := 200) (life_le _ _ _) (by omega)) hp
    simp only [bsG]
    rw [if_pos h1]
    exact ih _ _ hp
set_option maxHeartbeats 4000000 in
set_option maxRecDepth 100000 in
theorem cW_best {l : Launch} {I : wr_TI} {L : wr_TL} {R : wr_TR} (hR : wr_RC R) (t : Nat) (ht : t = 3 ∨ t = 10) (hto : R 0 1 = t + 1) (g : RG) (hV : rgV I L t g) (kk what : Int32) : wr_P l 7 mX7_best [.ref 0, .int kk, .int what] SH I L R (fun v s' I' L' R' => v = some (.int (aBest g kk what)) ∧ s' = SH ∧ R' = R ∧ frD t I L I' L') := by
  have hg := isG_of hR ht
  have hc := isC_18 hR
  have hd := isC_23 hR
  obtain ⟨-, g0, -⟩ := id hg
  have hn := hV.1
  have hn6 := hV.2.1
  have hn40 := hV.2.2.1
  have lp : ∀ (b : Nat), b ≤ 12 → ∀ (k i : Nat) (bs lo : Int32) (J : wr_TI) (K : wr_TL), i + k = gN g → rgV J K t g → frD t I L J K → wr_V l 7 mX7_best 27 [some (.ref 0), some (.int (nI b)), some (.int what), some (.int bs), some (.int lo), some (.int (nI i)), none] [] SH J K R 0 0 (fun v s' I' L' R' => v = some (.int (if what = 0 then (bsG g b k i (bs, lo)).1 else (bsG g b k i (bs, lo)).2)) ∧ s' = SH ∧ R' = R ∧ frD t I L I' L') := by
    intro b hb k
    induction k with
    | zero =>
      intro i bs lo J K hi hVJ hf
      have hnJ := hVJ.1
      obtain rfl : i = gN g := by omega
      refine wv_iload dX7_best_27 rfl ?_
      refine wv_aload_n dX7_best_29 rfl ?_
      refine wv_getR fX7_19 dX7_best_30 rfl (by first | assumption | rfl) (by first | exact hR _ _ _ rfl | assumption) ?_
      refine wv_getI fX7_94 dX7_best_33 rfl (by first | assumption | rfl) ?_
      refine wv_icmp_ge (tgt := 90) dX7_best_36 (by decide) (fun h36 => ?_) (fun h36 => absurd (by rw [hnJ]; exact nI_le (Nat.le_refl _) (by omega)) h36)
      refine wv_iload_n dX7_best_90 rfl ?_
      refine wv_if_ne (tgt := 98) dX7_best_91 (by decide) (fun h91 => ?_) (fun h91 => ?_)
      · refine wv_iload dX7_best_98 rfl ?_
        refine wv_iret rfl dX7_best_100 ?_
        refine ⟨?_, rfl, rfl, hf⟩
        simp [bsG, h91]
      · refine wv_iload_n dX7_best_94 rfl ?_
        refine wv_goto (tgt := 100) dX7_best_95 (by decide) ?_
        refine wv_iret rfl dX7_best_100 ?_
        refine ⟨?_, rfl, rfl, hf⟩
        simp [bsG, h91]
    | succ k ih =>
      intro i bs lo J K hi hVJ hf
      have hnJ := hVJ.1
      refine wv_iload dX7_best_27 rfl ?_
      refine wv_aload_n dX7_best_29 rfl ?_
      refine wv_getR fX7_19 dX7_best_30 rfl (by first | assumption | rfl) (by first | exact hR _ _ _ rfl | assumption) ?_
      refine wv_getI fX7_94 dX7_best_33 rfl (by first | assumption | rfl) ?_
      refine wv_icmp_ge (tgt := 90) dX7_best_36 (by decide) (fun h36 => absurd h36 (by rw [hnJ]; exact nI_ge (by omega) (by omega))) (fun h36 => ?_)
      refine wv_iload dX7_best_39 rfl ?_
      refine wv_sipush (v := 200) dX7_best_41 (by decide) ?_
      refine wv_icmp_ge (tgt := 90) dX7_best_44 (by decide) (fun h44 => ?_) (fun h44 => ?_)
      · have hst := bs_stop (g := g) (k := b) (k + 1) i (bs, lo) h44
        refine wv_iload_n dX7_best_90 rfl ?_
        refine wv_if_ne (tgt := 98) dX7_best_91 (by decide) (fun h91 => ?_) (fun h91 => ?_)
        · refine wv_iload dX7_best_98 rfl ?_
          refine wv_iret rfl dX7_best_100 ?_
          refine ⟨?_, rfl, rfl, hf⟩
          rw [hst]
          simp [h91]
        · refine wv_iload_n dX7_best_94 rfl ?_
          refine wv_goto (tgt := 100) dX7_best_95 (by decide) ?_
          refine wv_iret rfl dX7_best_100 ?_
          refine ⟨?_, rfl, rfl, hf⟩
          rw [hst]
          simp [h91]
      · refine wv_aload_n dX7_best_47 rfl ?_
        refine wv_aload_n dX7_best_48 rfl ?_
        refine wv_getR fX7_19 dX7_best_49 rfl (by first | assumption | rfl) (by first | exact hR _ _ _ rfl | assumption) ?_
        refine wv_iload dX7_best_52 rfl ?_
        refine wv_iload_n dX7_best_54 rfl ?_
        refine wv_v2e oX5_seatsFrom kX7_180 dX7_best_55 (by omega) (by first | assumption | rfl) ⟨rfl, by decide⟩ (Nat.le_of_ble_eq_true rfl) (Nat.le_of_ble_eq_true rfl) (cR_from t _ _ g0) ?_
        refine wv_aload_n dX7_best_58 rfl ?_
        refine wv_getR fX7_19 dX7_best_59 rfl (by first | assumption | rfl) (by first | exact hR _ _ _ rfl | assumption) ?_
        refine wv_getL fX7_143 dX7_best_62 rfl (by first | assumption | rfl) ?_
        refine wv_v2 oX7_lifeOf kX7_184 dX7_best_65 (by omega) (by first | assumption | rfl) ⟨rfl, by decide⟩ (Nat.le_of_ble_eq_true rfl) (Nat.le_of_ble_eq_true rfl) (cW_lifeOf hR t ht hto g hVJ _ _ (gD g) hVJ.2.2.2.2.1 (fun s hs => by rw [hnJ, sf_lb hn40 (by omega) (by omega) (by omega)]; exact sfB_ge hs)) (fun v9 s9 J9 L9 R9 h9 => ?_)
        obtain ⟨rfl, rfl, rfl, hf9⟩ := h9
        refine wv_istore dX7_best_68 (by decide) ?_
        refine wv_iload dX7_best_70 rfl ?_
        refine wv_iload dX7_best_72 rfl ?_
        refine wv_icmp_le (tgt := 84) dX7_best_74 (by decide) (fun h74 => ?_) (fun h74 => ?_)
        · have h74n : nI (life g (sfB (gN g) i b) (gD g)) ≤ lo := by rw [hnJ, sf_lb hn40 (by omega) (by omega) (by omega)] at h74; exact h74
          refine wv_iinc (v := nI (i + 1)) dX7_best_84 rfl (nI_1 (i)) (by decide) ?_
          refine wv_goto (tgt := 27) dX7_best_87 (by decide) ?_
          first
          | (have e : bsG g b (k + 1) i (bs, lo) = bsG g b k (i + 1) (bs, lo) := by simp only [bsG]; rw [if_pos h74n]
             rw [e]
             exact wv_le (by simp [wr_leq, wr_s1, wr_s2, wr_wide]) (ih (i + 1) bs lo J9 L9 (by omega) (frD_V ht hf9 hVJ) (frD_tr hf hf9)))
          | (have e : bsG g b (k + 1) i (bs, lo) = bsG g b k (i + 1) (nI i, nI (life g (sfB (gN g) i b) (gD g))) := by simp only [bsG]; rw [if_neg h74n]
             rw [e, hnJ, sf_lb hn40 (by omega) (by omega) (by omega)]
             exact wv_le (by simp [wr_leq, wr_s1, wr_s2, wr_wide]) (ih (i + 1) _ _ J9 L9 (by omega) (frD_V ht hf9 hVJ) (frD_tr hf hf9)))
        · have h74n : ¬ nI (life g (sfB (gN g) i b) (gD g)) ≤ lo := by rw [hnJ, sf_lb hn40 (by omega) (by omega) (by omega)] at h74; exact h74
          refine wv_iload dX7_best_77 rfl ?_
          refine wv_istore dX7_best_79 (by decide) ?_
          refine wv_iload dX7_best_81 rfl ?_
          refine wv_istore_k (i := 3) dX7_best_83 rfl (by decide) ?_
          refine wv_iinc (v := nI (i + 1)) dX7_best_84 rfl (nI_1 (i)) (by decide) ?_
          refine wv_goto (tgt := 27) dX7_best_87 (by decide) ?_
          first
          | (have e : bsG g b (k + 1) i (bs, lo) = bsG g b k (i + 1) (bs, lo) := by simp only [bsG]; rw [if_pos h74n]
             rw [e]
             exact wv_le (by simp [wr_leq, wr_s1, wr_s2, wr_wide]) (ih (i + 1) bs lo J9 L9 (by omega) (frD_V ht hf9 hVJ) (frD_tr hf hf9)))
          | (have e : bsG g b (k + 1) i (bs, lo) = bsG g b k (i + 1) (nI i, nI (life g (sfB (gN g) i b) (gD g))) := by simp only [bsG]; rw [if_neg h74n]
             rw [e, hnJ, sf_lb hn40 (by omega) (by omega) (by omega)]
             exact wv_le (by simp [wr_leq, wr_s1, wr_s2, wr_wide]) (ih (i + 1) _ _ J9 L9 (by omega) (frD_V ht hf9 hVJ) (frD_tr hf hf9)))
  refine wv_pad 4 ?_
  show wr_V l 7 mX7_best 0 [some (.ref 0), some (.int kk), some (.int what), none, none, none, none] [] SH I L R 0 0 _
  refine wv_aload_n dX7_best_0 rfl ?_
  refine wv_iload_n dX7_best_1 rfl ?_
  refine wv_v1e oX7_canTry kX7_177 dX7_best_2 (by omega) (by first | assumption | rfl) ⟨rfl, by decide⟩ (Nat.le_of_ble_eq_true rfl) (Nat.le_of_ble_eq_true rfl) (cW_canTry hR t ht hto g hV _) ?_
  refine wv_if_eq (tgt := 17) dX7_best_5 (by decide) (fun h5 => ?_) (fun h5 => ?_)
  · rw [if10] at h5
    refine wv_iconst (v := (-1)) dX7_best_17 (by decide) ?_
    refine wv_iret rfl dX7_best_18 ?_
    refine ⟨?_, rfl, rfl, frD_rf⟩
    unfold aBest
    rw [if_neg]
    grind
  · rw [if10] at h5
    have hk : oM g kk := Decidable.not_not.mp h5
    refine wv_iload_n dX7_best_8 rfl ?_
    refine wv_if_lt (tgt := 17) dX7_best_9 (by decide) (fun h9 => ?_) (fun h9 => ?_)
    · refine wv_iconst (v := (-1)) dX7_best_17 (by decide) ?_
      refine wv_iret rfl dX7_best_18 ?_
      refine ⟨?_, rfl, rfl, frD_rf⟩
      unfold aBest
      rw [if_neg]
      grind
    · refine wv_iload_n dX7_best_12 rfl ?_
      refine wv_iconst (v := 1) dX7_best_13 (by decide) ?_
      refine wv_icmp_le (tgt := 19) dX7_best_14 (by decide) (fun h14 => ?_) (fun h14 => ?_)
      · refine wv_iconst (v := 0) dX7_best_19 (by decide) ?_
        refine wv_istore_k (i := 3) dX7_best_20 rfl (by decide) ?_
        refine wv_iconst (v := (-1)) dX7_best_21 (by decide) ?_
        refine wv_istore dX7_best_22 (by decide) ?_
        refine wv_iconst (v := nI 0) dX7_best_24 rfl ?_
        refine wv_istore dX7_best_25 (by decide) ?_
        obtain ⟨b, hb1, hb2, hb3, rfl⟩ := mk_of hk hn40
        have := lp b hb2 (gN g) 0 0 (-1) I L (by omega) hV frD_rf
        unfold aBest
        rw [if_pos ⟨hk, by grind, h14⟩, tN_nI (by omega)]
        exact wv_le (by simp [wr_leq, wr_s1, wr_s2, wr_wide]) (this)
      · refine wv_iconst (v := (-1)) dX7_best_17 (by decide) ?_
        refine wv_iret rfl dX7_best_18 ?_
        refine ⟨?_, rfl, rfl, frD_rf⟩
        unfold aBest
        rw [if_neg]
        grind

def jmG (g : RG) (W : Nat → Bool) (y : Nat) : Nat → Int32
  | 0 => 0
  | b + 1 => if life g W (fun s => gD g s || sfB (gN g) y (b + 1) s) = 200 then nI (b + 1) else jmG g W y b
def aJumps (g : RG) (x k y : Int32) : Int32 := if oS g x ∧ oM g k ∧ oS g y ∧ life g (sfB (gN g) (tN x) (tN k)) (gD g) = 200 then jmG g (sfB (gN g) (tN x) (tN k)) (tN y) 9 else -1
set_option maxHeartbeats 4000000 in
set_option maxRecDepth 100000 in
theorem cW_jumps {l : Launch} {I : wr_TI} {L : wr_TL} {R : wr_TR} (hR : wr_RC R) (t : Nat) (ht : t = 3 ∨ t = 10) (hto : R 0 1 = t + 1) (g : RG) (hV : rgV I L t g) (x kk y : Int32) : wr_P l 7 mX7_jumps [.ref 0, .int x, .int kk, .int y] SH I L R (fun v s' I' L' R' => v = some (.int (aJumps g x kk y)) ∧ s' = SH ∧ R' = R ∧ frD t I L I' L') := by
  have hg := isG_of hR ht
  have hc := isC_18 hR
  have hd := isC_23 hR
  obtain ⟨-, g0, -⟩ := id hg
  have hn := hV.1
  have hn6 := hV.2.1
  have hn40 := hV.2.2.1
  have lp : ∀ (a b y0 : Nat), a < gN g → b ≤ 12 → y0 < gN g → ∀ (k : Nat) (J : wr_TI) (K : wr_TL), k ≤ 9 → rgV J K t g → frD t I L J K → wr_V l 7 mX7_jumps 68 [some (.ref 0), some (.int (nI a)), some (.int (nI b)), some (.int (nI y0)), some (.long (sf (nI (gN g)) (nI a) (nI b))), none, some (.int (nI k))] [] SH J K R 0 0 (fun v s' I' L' R' => v = some (.int (jmG g (sfB (gN g) a b) y0 k)) ∧ s' = SH ∧ R' = R ∧ frD t I L I' L') := by
    intro a b y0 ha hb hy k
    induction k with
    | zero =>
      intro J K hi hVJ hf
      refine wv_iload dX7_jumps_68 rfl ?_
      refine wv_if_le (tgt := 112) dX7_jumps_70 (by decide) (fun h70 => ?_) (fun h70 => absurd (show nI 0 ≤ 0 by decide) h70)
      refine wv_iconst (v := 0) dX7_jumps_112 (by decide) ?_
      refine wv_iret rfl dX7_jumps_113 ?_
      exact ⟨rfl, rfl, rfl, hf⟩
    | succ k ih =>
      intro J K hi hVJ hf
      have hnJ := hVJ.1
      have hdd : ∀ s, lb (K t 7 ||| sf (J t 5) (nI y0) (nI (k + 1))) s = (gD g s || sfB (gN g) y0 (k + 1) s) := fun s => by rw [lb_or, hVJ.2.2.2.2.1, hnJ, sf_lb hn40 (by omega) hy (by omega)]
      refine wv_iload dX7_jumps_68 rfl ?_
      refine wv_if_le (tgt := 112) dX7_jumps_70 (by decide) (fun h70 => absurd h70 (nI_nle (by omega) (by omega))) (fun h70 => ?_)
      refine wv_aload_n dX7_jumps_73 rfl ?_
      refine wv_lload dX7_jumps_74 rfl ?_
      refine wv_aload_n dX7_jumps_76 rfl ?_
      refine wv_getR fX7_19 dX7_jumps_77 rfl (by first | assumption | rfl) (by first | exact hR _ _ _ rfl | assumption) ?_
      refine wv_getL fX7_143 dX7_jumps_80 rfl (by first | assumption | rfl) ?_
      refine wv_aload_n dX7_jumps_83 rfl ?_
      refine wv_getR fX7_19 dX7_jumps_84 rfl (by first | assumption | rfl) (by first | exact hR _ _ _ rfl | assumption) ?_
      refine wv_iload_n dX7_jumps_87 rfl ?_
      refine wv_iload dX7_jumps_88 rfl ?_
      refine wv_v2e oX5_seatsFrom kX7_180 dX7_jumps_90 (by omega) (by first | assumption | rfl) ⟨rfl, by decide⟩ (Nat.le_of_ble_eq_true rfl) (Nat.le_of_ble_eq_true rfl) (cR_from t _ _ g0) ?_
      refine wv_lor dX7_jumps_93 ?_
      refine wv_v2 oX7_lifeOf kX7_184 dX7_jumps_94 (by omega) (by first | assumption | rfl) ⟨rfl, by decide⟩ (Nat.le_of_ble_eq_true rfl) (Nat.le_of_ble_eq_true rfl) (cW_lifeOf hR t ht hto g hVJ _ _ _ hdd (fun s hs => by rw [sf_lb hn40 (by omega) ha (by omega)]; exact sfB_ge hs)) (fun v9 s9 J9 L9 R9 h9 => ?_)
      obtain ⟨rfl, rfl, rfl, hf9⟩ := h9
      refine wv_sipush (v := 200) dX7_jumps_97 (by decide) ?_
      refine wv_icmp_ne (tgt := 106) dX7_jumps_100 (by decide) (fun h100 => ?_) (fun h100 => ?_)
      · have h100n : ¬ life g (sfB (gN g) a b) (fun s => gD g s || sfB (gN g) y0 (k + 1) s) = 200 := fun q => h100 (by rw [sf_lb hn40 (by omega) ha (by omega), q]; rfl)
        refine wv_iinc (v := nI k) dX7_jumps_106 rfl (pk_m1 k) (by decide) ?_
        refine wv_goto (tgt := 68) dX7_jumps_109 (by decide) ?_
        have e : jmG g (sfB (gN g) a b) y0 (k + 1) = jmG g (sfB (gN g) a b) y0 k := by simp [jmG, h100n]
        rw [e]
        exact wv_le (by simp [wr_leq, wr_s1, wr_s2, wr_wide]) (ih J9 L9 (by omega) (frD_V ht hf9 hVJ) (frD_tr hf hf9))
      · have h100n : life g (sfB (gN g) a b) (fun s => gD g s || sfB (gN g) y0 (k + 1) s) = 200 := by
          rw [sf_lb hn40 (by omega) ha (by omega)] at h100
          exact (nI_eq (b := 200) (by have := life_le g (sfB (gN g) a b) (fun s => gD g s || sfB (gN g) y0 (k + 1) s); omega) (by omega)).mp h100
        refine wv_iload dX7_jumps_103 rfl ?_
        refine wv_iret rfl dX7_jumps_105 ?_
        refine ⟨?_, rfl, rfl, frD_tr hf hf9⟩
        simp [jmG, h100n]
  refine wv_pad 3 ?_
  show wr_V l 7 mX7_jumps 0 [some (.ref 0), some (.int x), some (.int kk), some (.int y), none, none, none] [] SH I L R 0 0 _
  refine wv_aload_n dX7_jumps_0 rfl ?_
  refine wv_getR fX7_19 dX7_jumps_1 rfl (by first | assumption | rfl) (by first | exact hR _ _ _ rfl | assumption) ?_
  refine wv_iload_n dX7_jumps_4 rfl ?_
  refine wv_v1e oX5_has kX7_125 dX7_jumps_5 (by omega) (by first | assumption | rfl) ⟨rfl, by decide⟩ (Nat.le_of_ble_eq_true rfl) (Nat.le_of_ble_eq_true rfl) (cR_has t _ g0) ?_
  refine wv_if_eq (tgt := 30) dX7_jumps_8 (by decide) (fun h8 => ?_) (fun h8 => ?_)
  · rw [hn, if10] at h8
    refine wv_iconst (v := (-1)) dX7_jumps_30 (by decide) ?_
    refine wv_iret rfl dX7_jumps_31 ?_
    refine ⟨?_, rfl, rfl, frD_rf⟩
    unfold aJumps
    rw [if_neg]
    grind
  · rw [hn, if10] at h8
    have hx : oS g x := Decidable.not_not.mp h8
    refine wv_aload_n dX7_jumps_11 rfl ?_
    refine wv_iload_n dX7_jumps_12 rfl ?_
    refine wv_v1e oX7_canTry kX7_177 dX7_jumps_13 (by omega) (by first | assumption | rfl) ⟨rfl, by decide⟩ (Nat.le_of_ble_eq_true rfl) (Nat.le_of_ble_eq_true rfl) (cW_canTry hR t ht hto g hV _) ?_
    refine wv_if_eq (tgt := 30) dX7_jumps_16 (by decide) (fun h16 => ?_) (fun h16 => ?_)
    · rw [if10] at h16
      refine wv_iconst (v := (-1)) dX7_jumps_30 (by decide) ?_
      refine wv_iret rfl dX7_jumps_31 ?_
      refine ⟨?_, rfl, rfl, frD_rf⟩
      unfold aJumps
      rw [if_neg]
      grind
    · rw [if10] at h16
      have hk : oM g kk := Decidable.not_not.mp h16
      refine wv_aload_n dX7_jumps_19 rfl ?_
      refine wv_getR fX7_19 dX7_jumps_20 rfl (by first | assumption | rfl) (by first | exact hR _ _ _ rfl | assumption) ?_
      refine wv_iload_n dX7_jumps_23 rfl ?_
      refine wv_v1e oX5_has kX7_125 dX7_jumps_24 (by omega) (by first | assumption | rfl) ⟨rfl, by decide⟩ (Nat.le_of_ble_eq_true rfl) (Nat.le_of_ble_eq_true rfl) (cR_has t _ g0) ?_
      refine wv_if_ne (tgt := 32) dX7_jumps_27 (by decide) (fun h27 => ?_) (fun h27 => ?_)
      · rw [hn, if10] at h27
        have hy : oS g y := Decidable.not_not.mp h27
        obtain ⟨a, ha, rfl⟩ := ix_of hx (by omega)
        obtain ⟨y0, hy0, rfl⟩ := ix_of hy (by omega)
        obtain ⟨b, hb1, hb2, hb3, rfl⟩ := mk_of hk hn40
        refine wv_aload_n dX7_jumps_32 rfl ?_
        refine wv_getR fX7_19 dX7_jumps_33 rfl (by first | assumption | rfl) (by first | exact hR _ _ _ rfl | assumption) ?_
        refine wv_iload_n dX7_jumps_36 rfl ?_
        refine wv_iload_n dX7_jumps_37 rfl ?_
        refine wv_v2e oX5_seatsFrom kX7_180 dX7_jumps_38 (by omega) (by first | assumption | rfl) ⟨rfl, by decide⟩ (Nat.le_of_ble_eq_true rfl) (Nat.le_of_ble_eq_true rfl) (cR_from t _ _ g0) ?_
        rw [hn]
        refine wv_lstore dX7_jumps_41 (by decide) ?_
        refine wv_aload_n dX7_jumps_43 rfl ?_
        refine wv_lload dX7_jumps_44 rfl ?_
        refine wv_aload_n dX7_jumps_46 rfl ?_
        refine wv_getR fX7_19 dX7_jumps_47 rfl (by first | assumption | rfl) (by first | exact hR _ _ _ rfl | assumption) ?_
        refine wv_getL fX7_143 dX7_jumps_50 rfl (by first | assumption | rfl) ?_
        refine wv_v2 oX7_lifeOf kX7_184 dX7_jumps_53 (by omega) (by first | assumption | rfl) ⟨rfl, by decide⟩ (Nat.le_of_ble_eq_true rfl) (Nat.le_of_ble_eq_true rfl) (cW_lifeOf hR t ht hto g hV _ _ (gD g) hV.2.2.2.2.1 (fun s hs => by rw [sf_lb hn40 (by omega) ha (by omega)]; exact sfB_ge hs)) (fun v9 s9 J9 L9 R9 h9 => ?_)
        obtain ⟨rfl, rfl, rfl, hf9⟩ := h9
        refine wv_sipush (v := 200) dX7_jumps_56 (by decide) ?_
        refine wv_icmp_ge (tgt := 64) dX7_jumps_59 (by decide) (fun h59 => ?_) (fun h59 => ?_)
        · have h59n : life g (sfB (gN g) a b) (gD g) = 200 := by
            rw [sf_lb hn40 (by omega) ha (by omega)] at h59
            have := (nI_leI (a := 200) (by omega) (by have := life_le g (sfB (gN g) a b) (gD g); omega)).mp h59
            have := life_le g (sfB (gN g) a b) (gD g)
            omega
          refine wv_bipush (v := nI 9) dX7_jumps_64 rfl ?_
          refine wv_istore dX7_jumps_66 (by decide) ?_
          have := lp a b y0 ha hb2 hy0 9 J9 L9 (by omega) (frD_V ht hf9 hV) hf9
          unfold aJumps
          rw [tN_nI (by omega), tN_nI (by omega), tN_nI (by omega), if_pos ⟨hx, hk, hy, h59n⟩]
          exact wv_le (by simp [wr_leq, wr_s1, wr_s2, wr_wide]) (this)
        · have h59n : ¬ life g (sfB (gN g) a b) (gD g) = 200 := fun q => h59 (by rw [sf_lb hn40 (by omega) ha (by omega), q]; decide)
          refine wv_iconst (v := (-1)) dX7_jumps_62 (by decide) ?_
          refine wv_iret rfl dX7_jumps_63 ?_
          refine ⟨?_, rfl, rfl, hf9⟩
          unfold aJumps
          rw [tN_nI (by omega), tN_nI (by omega), tN_nI (by omega), if_neg (fun q => h59n q.2.2.2)]
      · rw [hn, if10] at h27
        refine wv_iconst (v := (-1)) dX7_jumps_30 (by decide) ?_
        refine wv_iret rfl dX7_jumps_31 ?_
        refine ⟨?_, rfl, rfl, frD_rf⟩
        unfold aJumps
        rw [if_neg]
        grind

