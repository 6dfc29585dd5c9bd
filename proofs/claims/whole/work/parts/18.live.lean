/-! a tenth as it is, with the shy ones drawn -/
def dw (P : Nat → Bool) (w : Int32) : Nat → Int32
  | 0 => w
  | k + 1 => if P k = true then drw (dw P w k) else dw P w k
def anb (x : Int64) (K : Nat → Bool) : Nat → Int64
  | 0 => x
  | k + 1 => if K k = true then anb x K k &&& ((1 <<< ((nI k).toInt64 &&& 63)) ^^^ (-1)) else anb x K k
theorem lb_anb (x : Int64) (K : Nat → Bool) : ∀ (k : Nat), k ≤ 64 → ∀ s, s < 64 → lb (anb x K k) s = (lb x s && !(decide (s < k) && K s)) := by
  intro k
  induction k with
  | zero => intro _ s _; simp [anb]
  | succ k ih =>
    intro hk s hs
    have hi := ih (by omega) s hs
    simp only [anb]
    by_cases hp : K k = true
    · rw [if_pos hp, lb_and, hi, lb_not _ hs, lb_one k (by omega) hs]
      by_cases hsk : s = k
      · subst hsk; simp [hp]
      · have e : decide (s < k + 1) = decide (s < k) := by simp; omega
        rw [e]; simp [hsk]
    · rw [if_neg hp, hi]
      by_cases hsk : s = k
      · subst hsk; simp at hp; simp [hp]
      · have e : decide (s < k + 1) = decide (s < k) := by simp; omega
        rw [e]
def shK (P : Nat → Bool) (w shy : Int32) : Nat → Bool := fun s => P s && decide (d10 (drw (dw P w s)) < shy)
set_option maxHeartbeats 4000000 in
set_option maxRecDepth 100000 in
theorem cC_shy {l : Launch} {I : wr_TI} {L : wr_TL} {R : wr_TR} (c : Nat) (x : Int64) (y : Int32) (hc : isC R c) (hy : ¬ y = 0) : wr_E l 1 mX0_withoutTheShy [.ref c, .long x, .int y] SH I L R (some (.long (anb x (shK (lb x) (I c 8) y) 40))) (wr_uI I c 8 (dw (lb x) (I c 8) 40)) L R := by
  have hc' := hc
  obtain ⟨z0, z1, c0, c1, c2, c3, c4, r0, r1, r2, r3⟩ := hc
  have lp : ∀ (k i : Nat), i + k = 40 → wr_V l 1 mX0_withoutTheShy 13 [some (.ref c), some (.long x), none, some (.int y), some (.long (anb x (shK (lb x) (I c 8) y) i)), none, some (.int (nI i))] [] SH (wr_uI I c 8 (dw (lb x) (I c 8) i)) L R 0 0 (wr_EQ (some (.long (anb x (shK (lb x) (I c 8) y) 40))) SH (wr_uI I c 8 (dw (lb x) (I c 8) 40)) L R) := by
    intro k
    induction k with
    | zero =>
      intro i hi
      obtain rfl : i = 40 := by omega
      refine wv_iload dX0_withoutTheShy_13 rfl ?_
      refine wv_bipush (v := 40) dX0_withoutTheShy_15 (by decide) ?_
      refine wv_icmp_ge (tgt := 56) dX0_withoutTheShy_17 (by decide) (fun h17 => ?_) (fun h17 => absurd (nI_le (a := 40) (by omega) (by omega)) h17)
      refine wv_lload dX0_withoutTheShy_56 rfl ?_
      refine wv_lret rfl dX0_withoutTheShy_58 ?_
      exact ⟨rfl, rfl, rfl, rfl, rfl⟩
    | succ k ih =>
      intro i hi
      have hu : ∀ v, wr_uI I c 8 v c 8 = v := fun v => by simp [wr_uI]
      have huu : ∀ v w, wr_uI (wr_uI I c 8 v) c 8 w = wr_uI I c 8 w := fun v w => by funext a b; simp only [wr_uI]; grind
      refine wv_iload dX0_withoutTheShy_13 rfl ?_
      refine wv_bipush (v := 40) dX0_withoutTheShy_15 (by decide) ?_
      refine wv_icmp_ge (tgt := 56) dX0_withoutTheShy_17 (by decide) (fun h17 => absurd h17 (nI_ge (b := 40) (by omega) (by omega))) (fun h17 => ?_)
      refine wv_lload_n dX0_withoutTheShy_20 rfl ?_
      refine wv_iload dX0_withoutTheShy_21 rfl ?_
      refine wv_s2e oX7_holds kX0_48 dX0_withoutTheShy_23 (by omega) (Nat.le_of_ble_eq_true rfl) (Nat.le_of_ble_eq_true rfl) (cW_holds _ _ (by omega)) ?_
      refine wv_if_eq (tgt := 50) dX0_withoutTheShy_26 (by decide) (fun h26 => ?_) (fun h26 => ?_)
      · have hP : lb x i = false := by cases hz : lb x i <;> simp_all
        have hK : shK (lb x) (I c 8) y i = false := by simp [shK, hP]
        refine wv_iinc (v := nI (i + 1)) dX0_withoutTheShy_50 rfl (nI_1 (i)) (by decide) ?_
        refine wv_goto (tgt := 13) dX0_withoutTheShy_53 (by decide) ?_
        have e1 : anb x (shK (lb x) (I c 8) y) (i + 1) = if shK (lb x) (I c 8) y i = true then anb x (shK (lb x) (I c 8) y) i &&& ((1 <<< ((nI i).toInt64 &&& 63)) ^^^ (-1)) else anb x (shK (lb x) (I c 8) y) i := rfl
        have e2 : dw (lb x) (I c 8) (i + 1) = if lb x i = true then drw (dw (lb x) (I c 8) i) else dw (lb x) (I c 8) i := rfl
        have := ih (i + 1) (by omega)
        simp only [hK, hP, if_true, Bool.false_eq_true, if_false] at e1 e2
        rw [e1, e2] at this
        try rw [huu, hu]
        exact wv_le (by simp [wr_leq, wr_s1, wr_s2, wr_wide]) (this)
      · have hP : lb x i = true := by cases hz : lb x i <;> simp_all
        refine wv_aload_n dX0_withoutTheShy_29 rfl ?_
        refine wv_v0e oX0_drawOfTen kX0_112 dX0_withoutTheShy_30 (by omega) (by first | assumption | rfl) ⟨rfl, by decide⟩ (Nat.le_of_ble_eq_true rfl) (Nat.le_of_ble_eq_true rfl) (cC_draw c hc') ?_
        refine wv_iload_n dX0_withoutTheShy_33 rfl ?_
        refine wv_icmp_ge (tgt := 50) dX0_withoutTheShy_34 (by decide) (fun h34 => ?_) (fun h34 => ?_)
        · have hK : shK (lb x) (I c 8) y i = false := by rw [hu] at h34; unfold shK; rw [hP]; simpa using h34
          refine wv_iinc (v := nI (i + 1)) dX0_withoutTheShy_50 rfl (nI_1 (i)) (by decide) ?_
          refine wv_goto (tgt := 13) dX0_withoutTheShy_53 (by decide) ?_
          have e1 : anb x (shK (lb x) (I c 8) y) (i + 1) = if shK (lb x) (I c 8) y i = true then anb x (shK (lb x) (I c 8) y) i &&& ((1 <<< ((nI i).toInt64 &&& 63)) ^^^ (-1)) else anb x (shK (lb x) (I c 8) y) i := rfl
          have e2 : dw (lb x) (I c 8) (i + 1) = if lb x i = true then drw (dw (lb x) (I c 8) i) else dw (lb x) (I c 8) i := rfl
          have := ih (i + 1) (by omega)
          simp only [hK, hP, if_true, Bool.false_eq_true, if_false] at e1 e2
          rw [e1, e2] at this
          try rw [huu, hu]
          exact wv_le (by simp [wr_leq, wr_s1, wr_s2, wr_wide]) (this)
        · have hK : shK (lb x) (I c 8) y i = true := by rw [hu] at h34; unfold shK; rw [hP]; simpa using h34
          refine wv_lload dX0_withoutTheShy_37 rfl ?_
          refine wv_lconst (v := 1) dX0_withoutTheShy_39 (by decide) ?_
          refine wv_iload dX0_withoutTheShy_40 rfl ?_
          refine wv_lshl dX0_withoutTheShy_42 ?_
          refine wv_ldc2_w nX0_46 dX0_withoutTheShy_43 ?_
          refine wv_lxor dX0_withoutTheShy_46 ?_
          refine wv_land dX0_withoutTheShy_47 ?_
          refine wv_lstore dX0_withoutTheShy_48 (by decide) ?_
          refine wv_iinc (v := nI (i + 1)) dX0_withoutTheShy_50 rfl (nI_1 (i)) (by decide) ?_
          refine wv_goto (tgt := 13) dX0_withoutTheShy_53 (by decide) ?_
          have e1 : anb x (shK (lb x) (I c 8) y) (i + 1) = if shK (lb x) (I c 8) y i = true then anb x (shK (lb x) (I c 8) y) i &&& ((1 <<< ((nI i).toInt64 &&& 63)) ^^^ (-1)) else anb x (shK (lb x) (I c 8) y) i := rfl
          have e2 : dw (lb x) (I c 8) (i + 1) = if lb x i = true then drw (dw (lb x) (I c 8) i) else dw (lb x) (I c 8) i := rfl
          have := ih (i + 1) (by omega)
          simp only [hK, hP, if_true, Bool.false_eq_true, if_false] at e1 e2
          rw [e1, e2] at this
          try rw [huu, hu]
          exact wv_le (by simp [wr_leq, wr_s1, wr_s2, wr_wide]) (this)
  refine wv_pad 3 ?_
  show wr_V l 1 mX0_withoutTheShy 0 [some (.ref c), some (.long x), none, some (.int y), none, none, none] [] SH I L R 0 0 _
  refine wv_lload_n dX0_withoutTheShy_0 rfl ?_
  refine wv_lstore dX0_withoutTheShy_1 (by decide) ?_
  refine wv_iload_n dX0_withoutTheShy_3 rfl ?_
  refine wv_if_ne (tgt := 10) dX0_withoutTheShy_4 (by decide) (fun h4 => ?_) (fun h4 => absurd h4 hy)
  refine wv_iconst (v := nI 0) dX0_withoutTheShy_10 rfl ?_
  refine wv_istore dX0_withoutTheShy_11 (by decide) ?_
  refine wv_I (I' := wr_uI I c 8 (dw (lb x) (I c 8) 0)) (fun a b => by simp only [wr_uI, dw]; grind) ?_
  exact wv_le (by simp [wr_leq, wr_s1, wr_s2, wr_wide, anb]) (lp 40 0 (by omega))

set_option maxHeartbeats 4000000 in
set_option maxRecDepth 100000 in
theorem cC_shy0 {l : Launch} {I : wr_TI} {L : wr_TL} {R : wr_TR} (c : Nat) (x : Int64) (hc : isC R c) : wr_E l 1 mX0_withoutTheShy [.ref c, .long x, .int 0] SH I L R (some (.long x)) I L R := by
  refine wv_pad 3 ?_
  show wr_V l 1 mX0_withoutTheShy 0 [some (.ref c), some (.long x), none, some (.int 0), none, none, none] [] SH I L R 0 0 _
  refine wv_lload_n dX0_withoutTheShy_0 rfl ?_
  refine wv_lstore dX0_withoutTheShy_1 (by decide) ?_
  refine wv_iload_n dX0_withoutTheShy_3 rfl ?_
  refine wv_if_ne (tgt := 10) dX0_withoutTheShy_4 (by decide) (fun h4 => absurd (show (0 : Int32) = 0 from rfl) h4) (fun h4 => ?_)
  refine wv_lload dX0_withoutTheShy_7 rfl ?_
  refine wv_lret rfl dX0_withoutTheShy_9 ?_
  exact ⟨rfl, rfl, rfl, rfl, rfl⟩

/-- how many of those rise in the way k, of the first i seats -/
def wyN (g : RG) (f P : Nat → Bool) (k i : Nat) : Nat := cn (fun s => P s && decide (wy (nI (sL f (gN g) s (gM g))) (nI (sR f (gN g) s (gM g))) = k)) i
theorem wy_lt (a b : Int32) : wy a b < 3 := by
  unfold wy
  split
  · omega
  · split <;> omega
set_option maxHeartbeats 4000000 in
set_option maxRecDepth 100000 in
theorem cC_ways {l : Launch} {I : wr_TI} {L : wr_TL} {R : wr_TR} (c t : Nat) (g : RG) (x : Int64) (hc : isC R c) (hg : isG R t) (hV : rgV I L t g) (hx : ∀ s, gN g ≤ s → lb x s = false) (hf : ∀ s, gN g ≤ s → lb (L c 5) s = false) : wr_P l 3 mX0_countWays [.ref c, .ref t, .long x] SH I L R (fun v s' I' L' R' => v = none ∧ s' = SH ∧ L' = L ∧ R' = R ∧ (∀ a, a ≠ c + 3 → a ≠ c + 4 → I' a = I a) ∧ ∀ q, q < 3 → I' (c + 3) q = I (c + 3) q + nI (wyN g (lb (L c 5)) (lb x) q 40)) := by
  have hc' := hc
  have hg' := hg
  obtain ⟨z0, z1, c0, c1, c2, c3, c4, r0, r1, r2, r3⟩ := hc
  obtain ⟨y0, g0, g1, g2, g3, g4, g5, g6, p0, p1, p2, p3, p4, p5⟩ := hg
  have lp : ∀ (k i : Nat) (J : wr_TI), i + k = 40 → (∀ a, a ≠ c + 3 → a ≠ c + 4 → J a = I a) → (∀ q, q < 3 → J (c + 3) q = I (c + 3) q + nI (wyN g (lb (L c 5)) (lb x) q i)) → wr_V l 3 mX0_countWays 3 [some (.ref c), some (.ref t), some (.long x), none, some (.int (nI i))] [] SH J L R 0 0 (fun v s' I' L' R' => v = none ∧ s' = SH ∧ L' = L ∧ R' = R ∧ (∀ a, a ≠ c + 3 → a ≠ c + 4 → I' a = I a) ∧ ∀ q, q < 3 → I' (c + 3) q = I (c + 3) q + nI (wyN g (lb (L c 5)) (lb x) q 40)) := by
    intro k
    induction k with
    | zero =>
      intro i J hi hJ hq
      obtain rfl : i = 40 := by omega
      refine wv_iload dX0_countWays_3 rfl ?_
      refine wv_bipush (v := 40) dX0_countWays_5 (by decide) ?_
      refine wv_icmp_ge (tgt := 51) dX0_countWays_7 (by decide) (fun h7 => ?_) (fun h7 => absurd (nI_le (a := 40) (by omega) (by omega)) h7)
      refine wv_ret (x := ()) rfl dX0_countWays_51 ?_
      exact ⟨rfl, rfl, rfl, rfl, hJ, hq⟩
    | succ k ih =>
      intro i J hi hJ hq
      have hw : ∀ q, wyN g (lb (L c 5)) (lb x) q (i + 1) = wyN g (lb (L c 5)) (lb x) q i + (if (lb x i && decide (wy (nI (sL (lb (L c 5)) (gN g) i (gM g))) (nI (sR (lb (L c 5)) (gN g) i (gM g))) = q)) = true then 1 else 0) := fun q => rfl
      refine wv_iload dX0_countWays_3 rfl ?_
      refine wv_bipush (v := 40) dX0_countWays_5 (by decide) ?_
      refine wv_icmp_ge (tgt := 51) dX0_countWays_7 (by decide) (fun h7 => absurd h7 (nI_ge (b := 40) (by omega) (by omega))) (fun h7 => ?_)
      refine wv_lload_n dX0_countWays_10 rfl ?_
      refine wv_iload dX0_countWays_11 rfl ?_
      refine wv_s2e oX7_holds kX0_48 dX0_countWays_13 (by omega) (Nat.le_of_ble_eq_true rfl) (Nat.le_of_ble_eq_true rfl) (cW_holds _ _ (by omega)) ?_
      refine wv_if_eq (tgt := 45) dX0_countWays_16 (by decide) (fun h16 => ?_) (fun h16 => ?_)
      · have hP : lb x i = false := by cases hz : lb x i <;> simp_all
        refine wv_iinc (v := nI (i + 1)) dX0_countWays_45 rfl (nI_1 (i)) (by decide) ?_
        refine wv_goto (tgt := 3) dX0_countWays_48 (by decide) ?_
        first
        | (have h0 : ∀ q, wyN g (lb (L c 5)) (lb x) q (i + 1) = wyN g (lb (L c 5)) (lb x) q i := fun q => by rw [hw q, hP]; rfl
           exact wv_le (by simp [wr_leq, wr_s1, wr_s2, wr_wide]) (ih (i + 1) J (by omega) hJ (fun q h => by rw [h0]; exact hq q h)))
        | (refine wv_le (by simp [wr_leq, wr_s1, wr_s2, wr_wide]) (ih (i + 1) _ (by omega) (fun a h1 h2 => by rw [wr_uI_ne h1, wr_uI_ne h2, wr_uI_ne h2]; exact hJ a h1 h2) (fun q h => ?_))
           rw [hw q, hP, ← nI_add]
           rw [show min (gSe g) ((gN g - 1) / 2) = gM g from rfl]
           generalize wy (nI (sL (lb (L c 5)) (gN g) i (gM g))) (nI (sR (lb (L c 5)) (gN g) i (gM g))) = W
           simp only [wr_uI, Bool.true_and, decide_eq_true_eq]
           by_cases hqe : q = W
           · subst hqe
             simp [hq q h, Int32.add_assoc]
             rfl
           · simp [hqe, Ne.symm hqe, hq q h]
             rw [nI_0])
      · have hP : lb x i = true := by cases hz : lb x i <;> simp_all
        have hin : i < gN g := by
          rcases Nat.lt_or_ge i (gN g) with h | h
          · exact h
          · rw [hx i h] at hP; simp at hP
        have hVJ : rgV J L t g := rgV_fr hV (fun a h1 h2 h3 => hJ a (by omega) (by omega)) rfl
        refine wv_aload_n dX0_countWays_19 rfl ?_
        refine wv_aload_n dX0_countWays_20 rfl ?_
        refine wv_iload dX0_countWays_21 rfl ?_
        refine wv_v2u oX0_lookAround kX0_65 dX0_countWays_23 (by omega) (by first | assumption | rfl) ⟨rfl, by decide⟩ (Nat.le_of_ble_eq_true rfl) (Nat.le_of_ble_eq_true rfl) (cC_look c t i (gN g) (gSe g) hc' hg' hVJ.1 hVJ.2.1 hVJ.2.2.1 hVJ.2.2.2.2.2.2.2.2.2.2.2.2.2.2.2.2.1 hVJ.2.2.2.2.2.2.2.2.2.2.2.2.2.2.2.2.2.1.1 hVJ.2.2.2.2.2.2.2.2.2.2.2.2.2.2.2.2.2.1.2 hin (fun u hu => hf u hu)) ?_
        refine wv_aload_n dX0_countWays_26 rfl ?_
        refine wv_aload_n dX0_countWays_27 rfl ?_
        refine wv_getR fX0_21 dX0_countWays_28 rfl (by first | assumption | rfl) (by first | exact hR _ _ _ rfl | assumption) ?_
        refine wv_iconst (v := 0) dX0_countWays_31 (by decide) ?_
        refine wv_ialdK (k := 0) dX0_countWays_32 (by first | assumption | rfl) (by decide) (by unfold vp_in; decide) ?_
        refine wv_aload_n dX0_countWays_33 rfl ?_
        refine wv_getR fX0_21 dX0_countWays_34 rfl (by first | assumption | rfl) (by first | exact hR _ _ _ rfl | assumption) ?_
        refine wv_iconst (v := 1) dX0_countWays_37 (by decide) ?_
        refine wv_ialdK (k := 1) dX0_countWays_38 (by first | assumption | rfl) (by decide) (by unfold vp_in; decide) ?_
        rw [show ∀ u v, wr_uI (wr_uI J (c + 4) 0 u) (c + 4) 1 v (c + 4) 0 = u from fun u v => by simp [wr_uI], show ∀ u v, wr_uI (wr_uI J (c + 4) 0 u) (c + 4) 1 v (c + 4) 1 = v from fun u v => by simp [wr_uI]]
        refine wv_s2e oX0_wayOf kX0_117 dX0_countWays_39 (by omega) (Nat.le_of_ble_eq_true rfl) (Nat.le_of_ble_eq_true rfl) (cC_wayOf _ _) ?_
        refine wv_v1u oX0_countWay kX0_121 dX0_countWays_42 (by omega) (by first | assumption | rfl) ⟨rfl, by decide⟩ (Nat.le_of_ble_eq_true rfl) (Nat.le_of_ble_eq_true rfl) (cC_countWay c _ hc' (wy_lt _ _)) ?_
        refine wv_iinc (v := nI (i + 1)) dX0_countWays_45 rfl (nI_1 (i)) (by decide) ?_
        refine wv_goto (tgt := 3) dX0_countWays_48 (by decide) ?_
        first
        | (have h0 : ∀ q, wyN g (lb (L c 5)) (lb x) q (i + 1) = wyN g (lb (L c 5)) (lb x) q i := fun q => by rw [hw q, hP]; rfl
           exact wv_le (by simp [wr_leq, wr_s1, wr_s2, wr_wide]) (ih (i + 1) J (by omega) hJ (fun q h => by rw [h0]; exact hq q h)))
        | (refine wv_le (by simp [wr_leq, wr_s1, wr_s2, wr_wide]) (ih (i + 1) _ (by omega) (fun a h1 h2 => by rw [wr_uI_ne h1, wr_uI_ne h2, wr_uI_ne h2]; exact hJ a h1 h2) (fun q h => ?_))
           rw [hw q, hP, ← nI_add]
           rw [show min (gSe g) ((gN g - 1) / 2) = gM g from rfl]
           generalize wy (nI (sL (lb (L c 5)) (gN g) i (gM g))) (nI (sR (lb (L c 5)) (gN g) i (gM g))) = W
           simp only [wr_uI, Bool.true_and, decide_eq_true_eq]
           by_cases hqe : q = W
           · subst hqe
             simp [hq q h, Int32.add_assoc]
             rfl
           · simp [hqe, Ne.symm hqe, hq q h]
             rw [nI_0])
  refine wv_pad 1 ?_
  show wr_V l 3 mX0_countWays 0 [some (.ref c), some (.ref t), some (.long x), none, none] [] SH I L R 0 0 _
  refine wv_iconst (v := nI 0) dX0_countWays_0 rfl ?_
  refine wv_istore dX0_countWays_1 (by decide) ?_
  exact wv_le (by simp [wr_leq, wr_s1, wr_s2, wr_wide]) (lp 40 0 I (by omega) (fun _ _ _ => rfl) (fun q _ => by show _ = _ + nI 0; rw [nI_0, Int32.add_zero]))

