/-! the tape -/
abbrev TP : Type := Nat × (Nat → Int32)
def s4 (i : Nat) : Int32 := if i = 0 then 24 else if i = 1 then 16 else if i = 2 then 8 else if i = 3 then 0 else -8
def by4 (v : Int32) (i : Nat) : Int32 := (v >>> (s4 i &&& 31)) &&& 255
def tpV (I : wr_TI) (T : TP) : Prop := I 1 1 = nI T.1 ∧ T.1 ≤ 800 ∧ ∀ i, i < T.1 → I 2 i &&& 255 = T.2 i
def tpA (T : TP) (v : Int32) : TP := (T.1 + 4, fun i => if i < T.1 then T.2 i else by4 v (i - T.1))
theorem b255 (x : BitVec 32) (i : Nat) : (x &&& 255#32).getLsbD i = (decide (i < 8) && x.getLsbD i) := by
  rw [BitVec.getLsbD_and]
  have h : (255#32).getLsbD i = decide (i < 8) := by
    by_cases hi : i < 32
    · have : ∀ i : Fin 32, (255#32).getLsbD i.val = decide (i.val < 8) := by decide
      exact this ⟨i, hi⟩
    · rw [BitVec.getLsbD_of_ge _ _ (by omega)]
      have : ¬ i < 8 := by omega
      simp [this]
  rw [h, Bool.and_comm]
theorem by4_e (v : Int32) : ∀ i, i < 4 → vp_nar .byte ((v.toUInt32 >>> ((s4 i).toUInt32 &&& Int32.toUInt32 31)).toInt32.toInt8.toInt32) &&& 255 = by4 v i := by
  intro i hi
  have e : ∀ x : Int32, vp_nar .byte x = x.toInt8.toInt32 := fun x => rfl
  rw [e]
  apply Int32.toBitVec_inj.mp
  have h : i = 0 ∨ i = 1 ∨ i = 2 ∨ i = 3 := by omega
  rcases h with rfl | rfl | rfl | rfl <;> (
    apply BitVec.eq_of_getLsbD_eq
    intro j hj
    simp only [by4, s4, Int32.toBitVec_and]
    rw [show (255 : Int32).toBitVec = 255#32 from rfl, b255, b255]
    by_cases h8 : j < 8
    · simp [h8, hj, BitVec.getElem_sshiftRight, BitVec.getElem_signExtend, BitVec.getLsbD_sshiftRight, BitVec.getLsbD_signExtend, show ¬ 32 ≤ j by omega, show 24 + j < 32 by omega, show 16 + j < 32 by omega, show 8 + j < 32 by omega]
    · simp [h8])
theorem s4_s : ∀ i, i < 4 → s4 i + Int32.ofInt (-8) = s4 (i + 1) := by
  intro i hi
  have h : i = 0 ∨ i = 1 ∨ i = 2 ∨ i = 3 := by omega
  rcases h with rfl | rfl | rfl | rfl <;> rfl
theorem s4_p : ∀ i, i < 4 → ¬ s4 i < 0 := by
  intro i hi
  have h : i = 0 ∨ i = 1 ∨ i = 2 ∨ i = 3 := by omega
  rcases h with rfl | rfl | rfl | rfl <;> decide
def frI (I I' : wr_TI) : Prop := ∀ b, b ≠ 1 → b ≠ 2 → I' b = I b
set_option maxHeartbeats 4000000 in
set_option maxRecDepth 100000 in
theorem cT_add {l : Launch} {I : wr_TI} {L : wr_TL} {R : wr_TR} (hR : wr_RC R) (T : TP) (v : Int32) (hT : tpV I T) (hl4 : T.1 + 4 ≤ 800) : wr_P l 0 mX6_add [.ref 1, .int v] SH I L R (fun v9 s' I' L' R' => v9 = none ∧ s' = SH ∧ L' = L ∧ R' = R ∧ tpV I' (tpA T v) ∧ frI I I') := by
  obtain ⟨t1, t2, t3⟩ := hT
  have lp : ∀ (k i : Nat) (J : wr_TI), i + k = 4 → J 1 1 = nI (T.1 + i) → (∀ e, e < T.1 → J 2 e = I 2 e) → (∀ e, e < i → J 2 (T.1 + e) &&& 255 = by4 v e) → frI I J → wr_V l 0 mX6_add 3 [some (.ref 1), some (.int v), some (.int (s4 i))] [] SH J L R 0 0 (fun v9 s' I' L' R' => v9 = none ∧ s' = SH ∧ L' = L ∧ R' = R ∧ tpV I' (tpA T v) ∧ frI I I') := by
    intro k
    induction k with
    | zero =>
      intro i J hi j1 j2 j3 hf
      obtain rfl : i = 4 := by omega
      refine wv_iload_n dX6_add_3 rfl ?_
      refine wv_if_lt (tgt := 55) dX6_add_4 (by decide) (fun h4 => ?_) (fun h4 => absurd (by decide) h4)
      refine wv_ret (x := ()) rfl dX6_add_55 ?_
      refine ⟨rfl, rfl, rfl, rfl, ⟨j1, hl4, fun e he => ?_⟩, hf⟩
      simp only [tpA] at he ⊢
      by_cases h : e < T.1
      · rw [if_pos h, j2 e h]; exact t3 e h
      · rw [if_neg h, ← j3 (e - T.1) (by omega)]; congr 2; omega
    | succ k ih =>
      intro i J hi j1 j2 j3 hf
      refine wv_iload_n dX6_add_3 rfl ?_
      refine wv_if_lt (tgt := 55) dX6_add_4 (by decide) (fun h4 => absurd h4 (s4_p i (by omega))) (fun h4 => ?_)
      refine wv_aload_n dX6_add_7 rfl ?_
      refine wv_getI fX6_15 dX6_add_8 rfl (by first | assumption | rfl) ?_
      refine wv_if_lt (tgt := 49) dX6_add_11 (by decide) (fun h11 => absurd h11 (by rw [j1]; exact nI_pos (by omega))) (fun h11 => ?_)
      refine wv_aload_n dX6_add_14 rfl ?_
      refine wv_getI fX6_15 dX6_add_15 rfl (by first | assumption | rfl) ?_
      refine wv_aload_n dX6_add_18 rfl ?_
      refine wv_getR fX6_9 dX6_add_19 rfl (by first | assumption | rfl) (by first | exact hR _ _ _ rfl | assumption) ?_
      refine wv_alen dX6_add_22 (t := 1) (by decide) (by first | assumption | rfl) ?_
      refine wv_icmp_ge (tgt := 49) dX6_add_23 (by decide) (fun h23 => absurd h23 (by rw [j1]; exact nI_ge (b := 800) (by omega) (by omega))) (fun h23 => ?_)
      refine wv_aload_n dX6_add_26 rfl ?_
      refine wv_getR fX6_9 dX6_add_27 rfl (by first | assumption | rfl) (by first | exact hR _ _ _ rfl | assumption) ?_
      refine wv_aload_n dX6_add_30 rfl ?_
      refine wv_getI fX6_15 dX6_add_31 rfl (by first | assumption | rfl) ?_
      rw [j1]
      refine wv_iload_n dX6_add_34 rfl ?_
      refine wv_iload_n dX6_add_35 rfl ?_
      refine wv_iushr dX6_add_36 ?_
      refine wv_i2b dX6_add_37 ?_
      refine wv_bastN dX6_add_38 (by first | assumption | rfl) (by omega) (by decide) ?_
      refine wv_aload_n dX6_add_39 rfl ?_
      refine wv_dup dX6_add_40 rfl ?_
      refine wv_getI fX6_15 dX6_add_41 rfl (by first | assumption | rfl) ?_
      refine wv_iconst (v := 1) dX6_add_44 (by decide) ?_
      refine wv_iadd dX6_add_45 ?_
      refine wv_putI fX6_15 dX6_add_46 rfl rfl rfl rfl (by first | assumption | rfl) ?_
      refine wv_iinc (v := s4 (i + 1)) dX6_add_49 rfl (s4_s i (by omega)) (by decide) ?_
      refine wv_goto (tgt := 3) dX6_add_52 (by decide) ?_
      refine wv_le (by simp [wr_leq, wr_s1, wr_s2, wr_wide]) (ih (i + 1) _ (by omega) ?_ ?_ ?_ ?_)
      · simp [wr_uI, j1]
        exact nI_1 _
      · intro e he
        simp [wr_uI, show ¬ e = T.1 + i by omega, j2 e he]
      · intro e he
        by_cases h : e = i
        · subst h
          simp [wr_uI]
          exact by4_e v e (by omega)
        · simp [wr_uI, h]
          exact j3 e (by omega)
      · intro b h1 h2
        funext d
        simp [wr_uI, h1, h2, hf b h1 h2]
  refine wv_pad 1 ?_
  show wr_V l 0 mX6_add 0 [some (.ref 1), some (.int v), none] [] SH I L R 0 0 _
  refine wv_bipush (v := s4 0) dX6_add_0 rfl ?_
  refine wv_istore_k (i := 2) dX6_add_2 rfl (by decide) ?_
  exact wv_le (by simp [wr_leq, wr_s1, wr_s2, wr_wide]) (lp 4 0 I (by omega) t1 (fun _ _ => rfl) (fun e he => absurd he (by omega)) (fun _ _ _ => rfl))

def tpG (T : TP) (x : Int32) : Int32 := if 0 ≤ x ∧ x < nI T.1 then T.2 (tN x) else -1
set_option maxHeartbeats 4000000 in
set_option maxRecDepth 100000 in
theorem cT_at {l : Launch} {I : wr_TI} {L : wr_TL} {R : wr_TR} (hR : wr_RC R) (T : TP) (x : Int32) (hT : tpV I T) : wr_E l 0 mX6_at [.ref 1, .int x] SH I L R (some (.int (tpG T x))) I L R := by
  obtain ⟨t1, t2, t3⟩ := hT
  by_cases hx : 0 ≤ x ∧ x < nI T.1
  · obtain ⟨a, ha, rfl⟩ := ix_of hx (by omega)
    have e : tpG T (nI a) = I 2 a &&& 255 := by unfold tpG; rw [if_pos hx, tN_nI (by omega), t3 a ha]
    rw [e]
    refine wv_pad 0 ?_
    show wr_V l 0 mX6_at 0 [some (.ref 1), some (.int (nI a))] [] SH I L R 0 0 _
    refine wv_iload_n dX6_at_0 rfl ?_
    refine wv_if_lt (tgt := 34) dX6_at_1 (by decide) (fun h1 => absurd h1 (nI_pos (by omega))) (fun h1 => ?_)
    refine wv_iload_n dX6_at_4 rfl ?_
    refine wv_aload_n dX6_at_5 rfl ?_
    refine wv_getI fX6_15 dX6_at_6 rfl (by first | assumption | rfl) ?_
    refine wv_icmp_ge (tgt := 34) dX6_at_9 (by decide) (fun h9 => absurd h9 (by rw [t1]; exact nI_ge ha (by omega))) (fun h9 => ?_)
    refine wv_iload_n dX6_at_12 rfl ?_
    refine wv_aload_n dX6_at_13 rfl ?_
    refine wv_getR fX6_9 dX6_at_14 rfl (by first | assumption | rfl) (by first | exact hR _ _ _ rfl | assumption) ?_
    refine wv_alen dX6_at_17 (t := 1) (by decide) (by first | assumption | rfl) ?_
    refine wv_icmp_ge (tgt := 34) dX6_at_18 (by decide) (fun h18 => absurd h18 (nI_ge (b := 800) (by omega) (by omega))) (fun h18 => ?_)
    refine wv_aload_n dX6_at_21 rfl ?_
    refine wv_getR fX6_9 dX6_at_22 rfl (by first | assumption | rfl) (by first | exact hR _ _ _ rfl | assumption) ?_
    refine wv_iload_n dX6_at_25 rfl ?_
    refine wv_baldN dX6_at_26 (by first | assumption | rfl) (by omega) (by decide) ?_
    refine wv_sipush (v := 255) dX6_at_27 (by decide) ?_
    refine wv_iand dX6_at_30 ?_
    refine wv_goto (tgt := 35) dX6_at_31 (by decide) ?_
    refine wv_iret rfl dX6_at_35 ?_
    exact ⟨rfl, rfl, rfl, rfl, rfl⟩
  · have e : tpG T x = -1 := by unfold tpG; rw [if_neg hx]
    rw [e]
    refine wv_pad 0 ?_
    show wr_V l 0 mX6_at 0 [some (.ref 1), some (.int x)] [] SH I L R 0 0 _
    refine wv_iload_n dX6_at_0 rfl ?_
    refine wv_if_lt (tgt := 34) dX6_at_1 (by decide) (fun h1 => ?_) (fun h1 => ?_)
    · refine wv_iconst (v := (-1)) dX6_at_34 (by decide) ?_
      refine wv_iret rfl dX6_at_35 ?_
      exact ⟨rfl, rfl, rfl, rfl, rfl⟩
    · refine wv_iload_n dX6_at_4 rfl ?_
      refine wv_aload_n dX6_at_5 rfl ?_
      refine wv_getI fX6_15 dX6_at_6 rfl (by first | assumption | rfl) ?_
      refine wv_icmp_ge (tgt := 34) dX6_at_9 (by decide) (fun h9 => ?_) (fun h9 => ?_)
      · rw [t1] at h9
        refine wv_iconst (v := (-1)) dX6_at_34 (by decide) ?_
        refine wv_iret rfl dX6_at_35 ?_
        exact ⟨rfl, rfl, rfl, rfl, rfl⟩
      · rw [t1] at h9
        exact absurd ⟨Int32.not_lt.mp h1, Int32.not_le.mp h9⟩ hx

def aFeed (T : TP) (a b c d e : Int32) : Int32 × TP := if T.1 ≤ 780 then (nI (T.1 + 20), tpA (tpA (tpA (tpA (tpA T a) b) c) d) e) else (-1, T)
def aEnd (T : TP) (x : Int32) : Int32 × TP := if 0 ≤ x ∧ x ≤ nI T.1 then (x, (tN x, T.2)) else (-1, T)
set_option maxHeartbeats 4000000 in
set_option maxRecDepth 100000 in
theorem cW_feed {l : Launch} {I : wr_TI} {L : wr_TL} {R : wr_TR} (hR : wr_RC R) (T : TP) (hT : tpV I T) (a b c d e : Int32) : wr_P l 1 mX7_feed [.ref 0, .int a, .int b, .int c, .int d, .int e] SH I L R (fun v s' I' L' R' => v = some (.int (aFeed T a b c d e).1) ∧ s' = SH ∧ L' = L ∧ R' = R ∧ tpV I' (aFeed T a b c d e).2 ∧ frI I I') := by
  obtain ⟨t1, t2, t3⟩ := id hT
  refine wv_pad 0 ?_
  show wr_V l 1 mX7_feed 0 [some (.ref 0), some (.int a), some (.int b), some (.int c), some (.int d), some (.int e)] [] SH I L R 0 0 _
  refine wv_aload_n dX7_feed_0 rfl ?_
  refine wv_getR fX7_12 dX7_feed_1 rfl (by first | assumption | rfl) (by first | exact hR _ _ _ rfl | assumption) ?_
  refine wv_getI fX7_76 dX7_feed_4 rfl (by first | assumption | rfl) ?_
  refine wv_sipush (v := 780) dX7_feed_7 (by decide) ?_
  refine wv_icmp_le (tgt := 15) dX7_feed_10 (by decide) (fun h10 => ?_) (fun h10 => ?_)
  · rw [t1] at h10
    have hn := (nI_leI (b := 780) (by omega) (by omega)).mp h10
    refine wv_aload_n dX7_feed_15 rfl ?_
    refine wv_getR fX7_12 dX7_feed_16 rfl (by first | assumption | rfl) (by first | exact hR _ _ _ rfl | assumption) ?_
    refine wv_iload_n dX7_feed_19 rfl ?_
    refine wv_v1 oX6_add kX7_80 dX7_feed_20 (by omega) (by first | assumption | rfl) ⟨rfl, by decide⟩ (Nat.le_of_ble_eq_true rfl) (Nat.le_of_ble_eq_true rfl) (cT_add hR (T) _ hT (by first | omega | (simp only [tpA]; omega))) (fun v91 s91 J91 L91 R91 h91 => ?_)
    obtain ⟨rfl, rfl, rfl, rfl, hT91, hf91⟩ := h91
    refine wv_aload_n dX7_feed_23 rfl ?_
    refine wv_getR fX7_12 dX7_feed_24 rfl (by first | assumption | rfl) (by first | exact hR _ _ _ rfl | assumption) ?_
    refine wv_iload_n dX7_feed_27 rfl ?_
    refine wv_v1 oX6_add kX7_80 dX7_feed_28 (by omega) (by first | assumption | rfl) ⟨rfl, by decide⟩ (Nat.le_of_ble_eq_true rfl) (Nat.le_of_ble_eq_true rfl) (cT_add hR (tpA T a) _ hT91 (by first | omega | (simp only [tpA]; omega))) (fun v92 s92 J92 L92 R92 h92 => ?_)
    obtain ⟨rfl, rfl, rfl, rfl, hT92, hf92⟩ := h92
    refine wv_aload_n dX7_feed_31 rfl ?_
    refine wv_getR fX7_12 dX7_feed_32 rfl (by first | assumption | rfl) (by first | exact hR _ _ _ rfl | assumption) ?_
    refine wv_iload_n dX7_feed_35 rfl ?_
    refine wv_v1 oX6_add kX7_80 dX7_feed_36 (by omega) (by first | assumption | rfl) ⟨rfl, by decide⟩ (Nat.le_of_ble_eq_true rfl) (Nat.le_of_ble_eq_true rfl) (cT_add hR (tpA (tpA T a) b) _ hT92 (by first | omega | (simp only [tpA]; omega))) (fun v93 s93 J93 L93 R93 h93 => ?_)
    obtain ⟨rfl, rfl, rfl, rfl, hT93, hf93⟩ := h93
    refine wv_aload_n dX7_feed_39 rfl ?_
    refine wv_getR fX7_12 dX7_feed_40 rfl (by first | assumption | rfl) (by first | exact hR _ _ _ rfl | assumption) ?_
    refine wv_iload dX7_feed_43 rfl ?_
    refine wv_v1 oX6_add kX7_80 dX7_feed_45 (by omega) (by first | assumption | rfl) ⟨rfl, by decide⟩ (Nat.le_of_ble_eq_true rfl) (Nat.le_of_ble_eq_true rfl) (cT_add hR (tpA (tpA (tpA T a) b) c) _ hT93 (by first | omega | (simp only [tpA]; omega))) (fun v94 s94 J94 L94 R94 h94 => ?_)
    obtain ⟨rfl, rfl, rfl, rfl, hT94, hf94⟩ := h94
    refine wv_aload_n dX7_feed_48 rfl ?_
    refine wv_getR fX7_12 dX7_feed_49 rfl (by first | assumption | rfl) (by first | exact hR _ _ _ rfl | assumption) ?_
    refine wv_iload dX7_feed_52 rfl ?_
    refine wv_v1 oX6_add kX7_80 dX7_feed_54 (by omega) (by first | assumption | rfl) ⟨rfl, by decide⟩ (Nat.le_of_ble_eq_true rfl) (Nat.le_of_ble_eq_true rfl) (cT_add hR (tpA (tpA (tpA (tpA T a) b) c) d) _ hT94 (by first | omega | (simp only [tpA]; omega))) (fun v95 s95 J95 L95 R95 h95 => ?_)
    obtain ⟨rfl, rfl, rfl, rfl, hT95, hf95⟩ := h95
    refine wv_aload_n dX7_feed_57 rfl ?_
    refine wv_getR fX7_12 dX7_feed_58 rfl (by first | assumption | rfl) (by first | exact hR _ _ _ rfl | assumption) ?_
    refine wv_getI fX7_76 dX7_feed_61 rfl (by first | assumption | rfl) ?_
    refine wv_iret rfl dX7_feed_64 ?_
    have e9 : aFeed T a b c d e = (nI (T.1 + 20), tpA (tpA (tpA (tpA (tpA T a) b) c) d) e) := by unfold aFeed; rw [if_pos hn]
    rw [e9]
    refine ⟨?_, rfl, rfl, rfl, hT95, fun b h1 h2 => by rw [hf95 b h1 h2, hf94 b h1 h2, hf93 b h1 h2, hf92 b h1 h2, hf91 b h1 h2]⟩
    rw [hT95.1]
    simp only [tpA]
  · rw [t1] at h10
    have hn : ¬ T.1 ≤ 780 := fun z => h10 (nI_le (b := 780) z (by omega))
    refine wv_iconst (v := (-1)) dX7_feed_13 (by decide) ?_
    refine wv_iret rfl dX7_feed_14 ?_
    have e9 : aFeed T a b c d e = (-1, T) := by unfold aFeed; rw [if_neg hn]
    rw [e9]
    exact ⟨rfl, rfl, rfl, rfl, hT, fun _ _ _ => rfl⟩

set_option maxHeartbeats 4000000 in
set_option maxRecDepth 100000 in
theorem cW_end {l : Launch} {I : wr_TI} {L : wr_TL} {R : wr_TR} (hR : wr_RC R) (T : TP) (hT : tpV I T) (x : Int32) : wr_P l 0 mX7_end [.ref 0, .int x] SH I L R (fun v s' I' L' R' => v = some (.int (aEnd T x).1) ∧ s' = SH ∧ L' = L ∧ R' = R ∧ tpV I' (aEnd T x).2 ∧ frI I I') := by
  obtain ⟨t1, t2, t3⟩ := id hT
  refine wv_pad 0 ?_
  show wr_V l 0 mX7_end 0 [some (.ref 0), some (.int x)] [] SH I L R 0 0 _
  refine wv_iload_n dX7_end_0 rfl ?_
  refine wv_if_lt (tgt := 15) dX7_end_1 (by decide) (fun h1 => ?_) (fun h1 => ?_)
  · refine wv_iconst (v := (-1)) dX7_end_15 (by decide) ?_
    refine wv_iret rfl dX7_end_16 ?_
    have e9 : aEnd T x = (-1, T) := by unfold aEnd; rw [if_neg]; grind
    rw [e9]
    exact ⟨rfl, rfl, rfl, rfl, hT, fun _ _ _ => rfl⟩
  · refine wv_iload_n dX7_end_4 rfl ?_
    refine wv_aload_n dX7_end_5 rfl ?_
    refine wv_getR fX7_12 dX7_end_6 rfl (by first | assumption | rfl) (by first | exact hR _ _ _ rfl | assumption) ?_
    refine wv_getI fX7_76 dX7_end_9 rfl (by first | assumption | rfl) ?_
    refine wv_icmp_le (tgt := 17) dX7_end_12 (by decide) (fun h12 => ?_) (fun h12 => ?_)
    · rw [t1] at h12
      have hx : 0 ≤ x ∧ x ≤ nI T.1 := ⟨Int32.not_lt.mp h1, h12⟩
      obtain ⟨a, ha, rfl⟩ := ix_of (n := T.1 + 1) ⟨hx.1, Int32.lt_of_le_of_lt hx.2 (nI_lt (by omega) (by omega))⟩ (by omega)
      refine wv_aload_n dX7_end_17 rfl ?_
      refine wv_getR fX7_12 dX7_end_18 rfl (by first | assumption | rfl) (by first | exact hR _ _ _ rfl | assumption) ?_
      refine wv_iload_n dX7_end_21 rfl ?_
      refine wv_putI fX7_76 dX7_end_22 rfl rfl rfl rfl (by first | assumption | rfl) ?_
      refine wv_iload_n dX7_end_25 rfl ?_
      refine wv_iret rfl dX7_end_26 ?_
      have e9 : aEnd T (nI a) = (nI a, (a, T.2)) := by unfold aEnd; rw [if_pos hx, tN_nI (by omega)]
      rw [e9]
      refine ⟨rfl, rfl, rfl, rfl, ⟨by simp [wr_uI], by simp only; omega, fun i hi => ?_⟩, fun b h1 h2 => ?_⟩
      · simp only at hi
        simp [wr_uI]
        exact t3 i (by omega)
      · funext d
        simp [wr_uI, h1]
    · rw [t1] at h12
      refine wv_iconst (v := (-1)) dX7_end_15 (by decide) ?_
      refine wv_iret rfl dX7_end_16 ?_
      have e9 : aEnd T x = (-1, T) := by unfold aEnd; rw [if_neg]; grind
      rw [e9]
      exact ⟨rfl, rfl, rfl, rfl, hT, fun _ _ _ => rfl⟩

def aFault (f p x : Int32) : Int32 := if x = 0 then f else if x = 1 then p else -1
set_option maxHeartbeats 4000000 in
set_option maxRecDepth 100000 in
theorem cW_fault {l : Launch} {I : wr_TI} {L : wr_TL} {R : wr_TR} (hR : wr_RC R) (x : Int32) : wr_E l 0 mX7_fault [.ref 0, .int x] SH I L R (some (.int (aFault (I 17 9) (I 17 10) x))) I L R := by
  refine wv_pad 0 ?_
  show wr_V l 0 mX7_fault 0 [some (.ref 0), some (.int x)] [] SH I L R 0 0 _
  refine wv_iload_n dX7_fault_0 rfl ?_
  refine wv_if_ne (tgt := 12) dX7_fault_1 (by decide) (fun h1 => ?_) (fun h1 => ?_)
  · refine wv_iload_n dX7_fault_12 rfl ?_
    refine wv_iconst (v := 1) dX7_fault_13 (by decide) ?_
    refine wv_icmp_ne (tgt := 27) dX7_fault_14 (by decide) (fun h14 => ?_) (fun h14 => ?_)
    · refine wv_iconst (v := (-1)) dX7_fault_27 (by decide) ?_
      refine wv_iret rfl dX7_fault_28 ?_
      refine ⟨?_, rfl, rfl, rfl, rfl⟩
      unfold aFault
      simp_all
    · refine wv_aload_n dX7_fault_17 rfl ?_
      refine wv_getR fX7_31 dX7_fault_18 rfl (by first | assumption | rfl) (by first | exact hR _ _ _ rfl | assumption) ?_
      refine wv_getI fX7_100 dX7_fault_21 rfl (by first | assumption | rfl) ?_
      refine wv_goto (tgt := 28) dX7_fault_24 (by decide) ?_
      refine wv_iret rfl dX7_fault_28 ?_
      refine ⟨?_, rfl, rfl, rfl, rfl⟩
      unfold aFault
      simp_all
  · refine wv_aload_n dX7_fault_4 rfl ?_
    refine wv_getR fX7_31 dX7_fault_5 rfl (by first | assumption | rfl) (by first | exact hR _ _ _ rfl | assumption) ?_
    refine wv_getI fX7_97 dX7_fault_8 rfl (by first | assumption | rfl) ?_
    refine wv_iret rfl dX7_fault_11 ?_
    refine ⟨?_, rfl, rfl, rfl, rfl⟩
    unfold aFault
    simp_all

