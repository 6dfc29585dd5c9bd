/-! the model: feed, end, fault, films -/
def frM (P F : Nat → Prop) (I I' : wr_TI) : Prop := (∀ b, b ≠ 55 → ¬ P b → I' b = I b) ∧ ∀ k, ¬ F k → I' 55 k = I 55 k
theorem frM_rf {P F : Nat → Prop} {I : wr_TI} : frM P F I I := ⟨fun _ _ _ => rfl, fun _ _ => rfl⟩
theorem frM_tr {P F : Nat → Prop} {I I1 I2 : wr_TI} (h1 : frM P F I I1) (h2 : frM P F I1 I2) : frM P F I I2 := ⟨fun b h3 h4 => (h2.1 b h3 h4).trans (h1.1 b h3 h4), fun k h => (h2.2 k h).trans (h1.2 k h)⟩
def mtV (I : wr_TI) (T : TP) : Prop := I 55 1 = nI T.1 ∧ T.1 ≤ 800 ∧ ∀ i, i < T.1 → I 56 i = T.2 i
abbrev frT8 (I I' : wr_TI) : Prop := frM (fun b => b = 56) (fun k => k = 1) I I'

set_option maxHeartbeats 4000000 in
set_option maxRecDepth 100000 in
theorem xT_four {l : Launch} {I : wr_TI} {L : wr_TL} {R : wr_TR} (hR : wr_RC R) (T : TP) (v : Int32) (hT : mtV I T) (hl4 : T.1 + 4 ≤ 800) : wr_P l 0 mX8_four [.ref 55, .int v] SH I L R (fun v9 s' I' L' R' => v9 = none ∧ s' = SH ∧ L' = L ∧ R' = R ∧ mtV I' (tpA T v) ∧ frT8 I I') := by
  obtain ⟨t1, t2, t3⟩ := hT
  have lp : ∀ (k i : Nat) (J : wr_TI), i + k = 4 → J 55 1 = nI (T.1 + i) → (∀ e, e < T.1 → J 56 e = I 56 e) → (∀ e, e < i → J 56 (T.1 + e) = by4 v e) → frT8 I J → wr_V l 0 mX8_four 3 [some (.ref 55), some (.int v), some (.int (s4 i))] [] SH J L R 0 0 (fun v9 s' I' L' R' => v9 = none ∧ s' = SH ∧ L' = L ∧ R' = R ∧ mtV I' (tpA T v) ∧ frT8 I I') := by
    intro k
    induction k with
    | zero =>
      intro i J hi j1 j2 j3 hf
      obtain rfl : i = 4 := by omega
      refine wv_iload_n dX8_four_3 rfl ?_
      refine wv_if_lt (tgt := 39) dX8_four_4 (by decide) (fun h4 => ?_) (fun h4 => absurd (by decide) h4)
      refine wv_ret (x := ()) rfl dX8_four_39 ?_
      refine ⟨rfl, rfl, rfl, rfl, ⟨j1, hl4, fun e he => ?_⟩, hf⟩
      simp only [tpA] at he ⊢
      by_cases h : e < T.1
      · rw [if_pos h, j2 e h]; exact t3 e h
      · rw [if_neg h, ← j3 (e - T.1) (by omega)]; congr 1; omega
    | succ k ih =>
      intro i J hi j1 j2 j3 hf
      refine wv_iload_n dX8_four_3 rfl ?_
      refine wv_if_lt (tgt := 39) dX8_four_4 (by decide) (fun h4 => absurd h4 (s4_p i (by omega))) (fun h4 => ?_)
      refine wv_aload_n dX8_four_7 rfl ?_
      refine wv_getR fX8_7 dX8_four_8 rfl (by first | assumption | rfl) (by first | exact hR _ _ _ rfl | assumption) ?_
      refine wv_aload_n dX8_four_11 rfl ?_
      refine wv_getI fX8_160 dX8_four_12 rfl (by first | assumption | rfl) ?_
      rw [j1]
      refine wv_iload_n dX8_four_15 rfl ?_
      refine wv_iload_n dX8_four_16 rfl ?_
      refine wv_ishr dX8_four_17 ?_
      refine wv_sipush (v := 255) dX8_four_18 (by decide) ?_
      refine wv_iand dX8_four_21 ?_
      refine wv_iastN dX8_four_22 (by first | assumption | rfl) (by omega) (by decide) ?_
      refine wv_aload_n dX8_four_23 rfl ?_
      refine wv_dup dX8_four_24 rfl ?_
      refine wv_getI fX8_160 dX8_four_25 rfl (by first | assumption | rfl) ?_
      refine wv_iconst (v := 1) dX8_four_28 (by decide) ?_
      refine wv_iadd dX8_four_29 ?_
      refine wv_putI fX8_160 dX8_four_30 rfl rfl rfl rfl (by first | assumption | rfl) ?_
      refine wv_iinc (v := s4 (i + 1)) dX8_four_33 rfl (s4_s i (by omega)) (by decide) ?_
      refine wv_goto (tgt := 3) dX8_four_36 (by decide) ?_
      refine wv_le (by simp [wr_leq, wr_s1, wr_s2, wr_wide]) (ih (i + 1) _ (by omega) ?_ ?_ ?_ ?_)
      · simp [wr_uI, j1]
        exact nI_1 _
      · intro e he
        simp [wr_uI, show ¬ e = T.1 + i by omega, j2 e he]
      · intro e he
        by_cases h : e = i
        · subst h
          simp [wr_uI, by4]
        · simp [wr_uI, h]
          exact j3 e (by omega)
      · refine ⟨fun b h1 h2 => ?_, fun d h1 => ?_⟩
        · funext d
          simp [wr_uI, h1, h2, hf.1 b h1 h2]
        · simp [wr_uI, h1, hf.2 d h1]
  refine wv_pad 1 ?_
  show wr_V l 0 mX8_four 0 [some (.ref 55), some (.int v), none] [] SH I L R 0 0 _
  refine wv_bipush (v := s4 0) dX8_four_0 rfl ?_
  refine wv_istore_k (i := 2) dX8_four_2 rfl (by decide) ?_
  exact wv_le (by simp [wr_leq, wr_s1, wr_s2, wr_wide]) (lp 4 0 I (by omega) t1 (fun _ _ => rfl) (fun e he => absurd he (by omega)) frM_rf)

set_option maxHeartbeats 4000000 in
set_option maxRecDepth 100000 in
theorem xW_feed {l : Launch} {I : wr_TI} {L : wr_TL} {R : wr_TR} (hR : wr_RC R) (T : TP) (hT : mtV I T) (a b c d e : Int32) : wr_P l 1 mX8_feed [.ref 55, .int a, .int b, .int c, .int d, .int e] SH I L R (fun v s' I' L' R' => v = some (.int (aFeed T a b c d e).1) ∧ s' = SH ∧ L' = L ∧ R' = R ∧ mtV I' (aFeed T a b c d e).2 ∧ frT8 I I') := by
  obtain ⟨t1, t2, t3⟩ := id hT
  have e20 : nI T.1 + 20 = nI (T.1 + 20) := nI_add (b := 20) ..
  refine wv_pad 0 ?_
  show wr_V l 1 mX8_feed 0 [some (.ref 55), some (.int a), some (.int b), some (.int c), some (.int d), some (.int e)] [] SH I L R 0 0 _
  refine wv_aload_n dX8_feed_0 rfl ?_
  refine wv_getI fX8_160 dX8_feed_1 rfl (by first | assumption | rfl) ?_
  refine wv_bipush (v := 20) dX8_feed_4 (by decide) ?_
  rw [t1]
  refine wv_iadd dX8_feed_6 ?_
  rw [e20]
  refine wv_sipush (v := 800) dX8_feed_7 (by decide) ?_
  refine wv_icmp_le (tgt := 15) dX8_feed_10 (by decide) (fun h10 => ?_) (fun h10 => ?_)
  · have hn := (nI_leI (b := 800) (by omega) (by omega)).mp h10
    refine wv_aload_n dX8_feed_15 rfl ?_
    refine wv_iload_n dX8_feed_16 rfl ?_
    refine wv_v1 oX8_four kX8_163 dX8_feed_17 (by omega) (by first | assumption | rfl) ⟨rfl, by decide⟩ (Nat.le_of_ble_eq_true rfl) (Nat.le_of_ble_eq_true rfl) (xT_four hR (T) _ hT (by first | omega | (simp only [tpA]; omega))) (fun v91 s91 J91 L91 R91 h91 => ?_)
    obtain ⟨rfl, rfl, rfl, rfl, hT91, hf91⟩ := h91
    refine wv_aload_n dX8_feed_20 rfl ?_
    refine wv_iload_n dX8_feed_21 rfl ?_
    refine wv_v1 oX8_four kX8_163 dX8_feed_22 (by omega) (by first | assumption | rfl) ⟨rfl, by decide⟩ (Nat.le_of_ble_eq_true rfl) (Nat.le_of_ble_eq_true rfl) (xT_four hR (tpA T a) _ hT91 (by first | omega | (simp only [tpA]; omega))) (fun v92 s92 J92 L92 R92 h92 => ?_)
    obtain ⟨rfl, rfl, rfl, rfl, hT92, hf92⟩ := h92
    refine wv_aload_n dX8_feed_25 rfl ?_
    refine wv_iload_n dX8_feed_26 rfl ?_
    refine wv_v1 oX8_four kX8_163 dX8_feed_27 (by omega) (by first | assumption | rfl) ⟨rfl, by decide⟩ (Nat.le_of_ble_eq_true rfl) (Nat.le_of_ble_eq_true rfl) (xT_four hR (tpA (tpA T a) b) _ hT92 (by first | omega | (simp only [tpA]; omega))) (fun v93 s93 J93 L93 R93 h93 => ?_)
    obtain ⟨rfl, rfl, rfl, rfl, hT93, hf93⟩ := h93
    refine wv_aload_n dX8_feed_30 rfl ?_
    refine wv_iload dX8_feed_31 rfl ?_
    refine wv_v1 oX8_four kX8_163 dX8_feed_33 (by omega) (by first | assumption | rfl) ⟨rfl, by decide⟩ (Nat.le_of_ble_eq_true rfl) (Nat.le_of_ble_eq_true rfl) (xT_four hR (tpA (tpA (tpA T a) b) c) _ hT93 (by first | omega | (simp only [tpA]; omega))) (fun v94 s94 J94 L94 R94 h94 => ?_)
    obtain ⟨rfl, rfl, rfl, rfl, hT94, hf94⟩ := h94
    refine wv_aload_n dX8_feed_36 rfl ?_
    refine wv_iload dX8_feed_37 rfl ?_
    refine wv_v1 oX8_four kX8_163 dX8_feed_39 (by omega) (by first | assumption | rfl) ⟨rfl, by decide⟩ (Nat.le_of_ble_eq_true rfl) (Nat.le_of_ble_eq_true rfl) (xT_four hR (tpA (tpA (tpA (tpA T a) b) c) d) _ hT94 (by first | omega | (simp only [tpA]; omega))) (fun v95 s95 J95 L95 R95 h95 => ?_)
    obtain ⟨rfl, rfl, rfl, rfl, hT95, hf95⟩ := h95
    refine wv_aload_n dX8_feed_42 rfl ?_
    refine wv_getI fX8_160 dX8_feed_43 rfl (by first | assumption | rfl) ?_
    refine wv_iret rfl dX8_feed_46 ?_
    have e9 : aFeed T a b c d e = (nI (T.1 + 20), tpA (tpA (tpA (tpA (tpA T a) b) c) d) e) := by unfold aFeed; rw [if_pos (by omega)]
    rw [e9]
    refine ⟨?_, rfl, rfl, rfl, hT95, frM_tr hf91 (frM_tr hf92 (frM_tr hf93 (frM_tr hf94 hf95)))⟩
    rw [hT95.1]
    simp only [tpA]
  · have hn : ¬ T.1 + 20 ≤ 800 := fun z => h10 (nI_le (b := 800) z (by omega))
    refine wv_iconst (v := (-1)) dX8_feed_13 (by decide) ?_
    refine wv_iret rfl dX8_feed_14 ?_
    have e9 : aFeed T a b c d e = (-1, T) := by unfold aFeed; rw [if_neg (by omega)]
    rw [e9]
    exact ⟨rfl, rfl, rfl, rfl, hT, frM_rf⟩

set_option maxHeartbeats 4000000 in
set_option maxRecDepth 100000 in
theorem xW_end {l : Launch} {I : wr_TI} {L : wr_TL} {R : wr_TR} (hR : wr_RC R) (T : TP) (hT : mtV I T) (x : Int32) : wr_P l 0 mX8_end [.ref 55, .int x] SH I L R (fun v s' I' L' R' => v = some (.int (aEnd T x).1) ∧ s' = SH ∧ L' = L ∧ R' = R ∧ mtV I' (aEnd T x).2 ∧ frT8 I I') := by
  obtain ⟨t1, t2, t3⟩ := id hT
  refine wv_pad 0 ?_
  show wr_V l 0 mX8_end 0 [some (.ref 55), some (.int x)] [] SH I L R 0 0 _
  refine wv_iload_n dX8_end_0 rfl ?_
  refine wv_if_lt (tgt := 12) dX8_end_1 (by decide) (fun h1 => ?_) (fun h1 => ?_)
  · refine wv_iconst (v := (-1)) dX8_end_12 (by decide) ?_
    refine wv_iret rfl dX8_end_13 ?_
    have e9 : aEnd T x = (-1, T) := by unfold aEnd; rw [if_neg]; grind
    rw [e9]
    exact ⟨rfl, rfl, rfl, rfl, hT, frM_rf⟩
  · refine wv_iload_n dX8_end_4 rfl ?_
    refine wv_aload_n dX8_end_5 rfl ?_
    refine wv_getI fX8_160 dX8_end_6 rfl (by first | assumption | rfl) ?_
    refine wv_icmp_le (tgt := 14) dX8_end_9 (by decide) (fun h9 => ?_) (fun h9 => ?_)
    · rw [t1] at h9
      have hx : 0 ≤ x ∧ x ≤ nI T.1 := ⟨Int32.not_lt.mp h1, h9⟩
      obtain ⟨a, ha, rfl⟩ := ix_of (n := T.1 + 1) ⟨hx.1, Int32.lt_of_le_of_lt hx.2 (nI_lt (by omega) (by omega))⟩ (by omega)
      refine wv_aload_n dX8_end_14 rfl ?_
      refine wv_iload_n dX8_end_15 rfl ?_
      refine wv_putI fX8_160 dX8_end_16 rfl rfl rfl rfl (by first | assumption | rfl) ?_
      refine wv_iload_n dX8_end_19 rfl ?_
      refine wv_iret rfl dX8_end_20 ?_
      have e9 : aEnd T (nI a) = (nI a, (a, T.2)) := by unfold aEnd; rw [if_pos hx, tN_nI (by omega)]
      rw [e9]
      refine ⟨rfl, rfl, rfl, rfl, ⟨by simp [wr_uI], by simp only; omega, fun i hi => ?_⟩, fun b h1 h2 => ?_, fun d h1 => ?_⟩
      · simp only at hi
        simp [wr_uI]
        exact t3 i (by omega)
      · funext d
        simp [wr_uI, h1]
      · simp [wr_uI, h1]
    · rw [t1] at h9
      refine wv_iconst (v := (-1)) dX8_end_12 (by decide) ?_
      refine wv_iret rfl dX8_end_13 ?_
      have e9 : aEnd T x = (-1, T) := by unfold aEnd; rw [if_neg]; grind
      rw [e9]
      exact ⟨rfl, rfl, rfl, rfl, hT, frM_rf⟩

set_option maxHeartbeats 4000000 in
set_option maxRecDepth 100000 in
theorem xW_fault {l : Launch} {I : wr_TI} {L : wr_TL} {R : wr_TR} (hR : wr_RC R) (x : Int32) : wr_E l 0 mX8_fault [.ref 55, .int x] SH I L R (some (.int (aFault (I 55 2) (I 55 3) x))) I L R := by
  refine wv_pad 0 ?_
  show wr_V l 0 mX8_fault 0 [some (.ref 55), some (.int x)] [] SH I L R 0 0 _
  refine wv_iload_n dX8_fault_0 rfl ?_
  refine wv_if_ne (tgt := 11) dX8_fault_1 (by decide) (fun h1 => ?_) (fun h1 => ?_)
  · refine wv_iload_n dX8_fault_11 rfl ?_
    refine wv_iconst (v := 1) dX8_fault_12 (by decide) ?_
    refine wv_icmp_ne (tgt := 23) dX8_fault_13 (by decide) (fun h13 => ?_) (fun h13 => ?_)
    · refine wv_iconst (v := (-1)) dX8_fault_23 (by decide) ?_
      refine wv_iret rfl dX8_fault_24 ?_
      refine ⟨?_, rfl, rfl, rfl, rfl⟩
      unfold aFault
      simp_all
    · refine wv_aload_n dX8_fault_16 rfl ?_
      refine wv_getI fX8_13 dX8_fault_17 rfl (by first | assumption | rfl) ?_
      refine wv_goto (tgt := 24) dX8_fault_20 (by decide) ?_
      refine wv_iret rfl dX8_fault_24 ?_
      refine ⟨?_, rfl, rfl, rfl, rfl⟩
      unfold aFault
      simp_all
  · refine wv_aload_n dX8_fault_4 rfl ?_
    refine wv_getI fX8_200 dX8_fault_5 rfl (by first | assumption | rfl) ?_
    refine wv_goto (tgt := 24) dX8_fault_8 (by decide) ?_
    refine wv_iret rfl dX8_fault_24 ?_
    refine ⟨?_, rfl, rfl, rfl, rfl⟩
    unfold aFault
    simp_all

