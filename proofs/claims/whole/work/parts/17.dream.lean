/-! a tenth as if nobody were shy -/
theorem bh_beh {up rest v : Int32} (hu : 1 ≤ up ∧ up ≤ 9) (hr : 0 ≤ rest ∧ rest ≤ 20) (hv : rok v) (h0 : ¬ v = 0) : bh up rest v = beh up rest v ∧ rok (bh up rest v) ∧ ¬ bh up rest v = 1 := by
  unfold rok at hv
  refine ⟨?_, ?_, ?_⟩
  · have hq : 11 ≤ v → (v - 10 < rest ↔ v < 10 + rest) := by
      intro h11
      obtain ⟨a, ha, rfl⟩ := nI_of2 (M := 30) (n := 30) (x := v) rfl (by grind) (by grind)
      obtain ⟨r, hr9, rfl⟩ := nI_of2 (M := 20) (n := 20) (x := rest) rfl (by grind) hr.2
      have ha2 : 11 ≤ a := (nI_leI (a := 11) (by omega) (by omega)).mp h11
      rw [show (10 : Int32) = nI 10 from rfl, pk_sub (by omega), nI_add, nI_ltI (by omega) (by omega), nI_ltI (by omega) (by omega)]
      omega
    unfold bh beh isU
    by_cases h10 : v < 10
    · have h1 : 1 ≤ v ∧ v ≤ 9 := by grind
      simp [h10, h1]
    · have h11 : 11 ≤ v ∧ v ≤ 30 := by grind
      have h1 : ¬ (1 ≤ v ∧ v ≤ 9) := by grind
      have h2 : 10 < v ∧ v < 40 := by grind
      simp only [h10, h1, h2, hq h11.1, decide_false, Bool.false_eq_true, if_false, if_true, and_self]
  · unfold bh rok; grind
  · unfold bh; grind
theorem isU_rok {v : Int32} (h : rok v) : isU v = (decide (v ≠ 0) && decide (v < 10)) := by
  unfold rok at h
  unfold isU
  by_cases h0 : v = 0
  · subst h0; decide
  · by_cases h1 : v < 10
    · have : 1 ≤ v ∧ v ≤ 9 := by grind
      simp [h0, h1, this]
    · have : ¬ (1 ≤ v ∧ v ≤ 9) := by grind
      simp [h1, this]
theorem rok_0 : rok 0 := Or.inl ⟨by decide, by decide⟩
theorem rok_1 : rok 1 := Or.inl ⟨by decide, by decide⟩
theorem crV_move {I : wr_TI} {L : wr_TL} {c t : Nat} {g : RG} {S : SS} {P : Nat → Bool} {x : Int64} (hct : t + 8 ≤ c) (hV : rgV I L t g) (hS : crV I L c g S) (hx : ∀ s, s < 64 → lb x s = (decide (s < gN g) && P s)) (hP : ∀ s, s < gN g → P s = true → S.1 s = 0) : crV (mvI I c t x (gN g)) (mvL I L c t x (gN g)) c g (stp g P S) := by
  obtain ⟨v0, v1, v2, v3, v4, v5, v6, v7, v8, v9, v10, v11, v12, v13, v14, v15, v16, v17, v18, v19, v20, v21, v22, v23⟩ := hV
  obtain ⟨s0, s1, s2, s3, s4, s5, s6⟩ := hS
  have hst : ∀ s, s < 40 → mvI I c t x (gN g) (c + 1) s = if s < gN g then mvN I c t (lb x) s else I (c + 1) s := by
    intro s hs
    simp only [mvI, mvS]
    rw [if_neg (by omega)]
    by_cases h : s < gN g <;> simp [h]
  have key : ∀ s, s < 40 → (gG g s = true → (stp g P S).1 s = 40 ∧ mvI I c t x (gN g) (c + 1) s = 0) ∧ (gG g s = false → (stp g P S).1 s = mvI I c t x (gN g) (c + 1) s ∧ rok ((stp g P S).1 s)) ∧ decide (mvI I c t x (gN g) (c + 1) s = 1) = lb x s := by
    intro s hs
    obtain ⟨a1, a2⟩ := s0 s hs
    have hxs := hx s (by omega)
    rw [hst s hs]
    by_cases hn : s < gN g
    · simp only [hn, decide_true, Bool.true_and] at hxs
      simp only [stp, hn, if_true]
      cases hG : gG g s with
      | true =>
        obtain ⟨b1, b2⟩ := a1 hG
        have hPs : P s = false := by
          cases hp : P s with
          | false => rfl
          | true => have := hP s hn hp; rw [b1] at this; exact absurd this (by decide)
        refine ⟨fun _ => ⟨?_, ?_⟩, fun h => by simp at h, ?_⟩
        · rw [hPs, b1]
          have : isU 40 = false := by decide
          simp [beh, this]
        · simp [mvN, hxs, hPs, b2]
        · simp [mvN, hxs, hPs, b2]
      | false =>
        obtain ⟨b1, b2⟩ := a2 hG
        refine ⟨fun h => by simp at h, fun _ => ?_, ?_⟩
        · simp only [mvN, hxs]
          cases hp : P s with
          | true => simp; exact rok_1
          | false =>
            simp only [Bool.false_eq_true, if_false]
            by_cases h0 : I (c + 1) s = 0
            · rw [if_pos h0, b1, h0]
              have : isU 0 = false := by decide
              simp [beh, this]
              exact rok_0
            · rw [if_neg h0, v12, v14, b1]
              rw [b1] at b2
              obtain ⟨e1, e2, -⟩ := bh_beh v13 v15 b2 h0
              rw [e1]
              exact ⟨rfl, by rw [← e1]; exact e2⟩
        · simp only [mvN, hxs]
          cases hp : P s with
          | true => simp
          | false =>
            simp only [Bool.false_eq_true, if_false]
            by_cases h0 : I (c + 1) s = 0
            · rw [if_pos h0]; simp
            · rw [if_neg h0, v12, v14]
              rw [b1] at b2
              obtain ⟨-, -, e3⟩ := bh_beh v13 v15 b2 h0
              simp [e3]
    · have h0 := s1 s (by omega) hs
      have hG : gG g s = false := (v6 s (by omega)).1
      obtain ⟨b1, b2⟩ := a2 hG
      simp only [hn, decide_false, Bool.false_and] at hxs
      simp only [stp, hn, if_false]
      refine ⟨fun h => by rw [hG] at h; simp at h, fun _ => ⟨b1, b2⟩, ?_⟩
      rw [h0, hxs]
      rfl
  refine ⟨fun s hs => ⟨(key s hs).1, (key s hs).2.1⟩, fun s h1 h2 => ?_, fun s hs => ?_, ?_, ?_, fun s hs => ?_, fun s hs => ?_⟩
  · rw [hst s h2, if_neg (by omega)]
    exact s1 s h1 h2
  · have hxs := hx s (by omega)
    simp only [mvI, mvS, stp]
    rw [if_neg (by omega), if_neg (by omega), hxs]
    by_cases hn : s < gN g
    · simp only [hn, decide_true, Bool.true_and, true_and, if_true]
      rw [s2 s hs]
    · simp [hn, s2 s hs]
  · simp [mvI, stp, s3]
  · simp only [mvI, stp]
    rw [if_neg (by omega)]
    simp [mvS, s4]
  · by_cases h40 : s < 40
    · have h1 : mvL I L c t x (gN g) c 4 = orb x (mvK I c t (lb x)) (gN g) := by simp [mvL]
      rw [h1, lb_orb _ _ _ (by omega) s hs]
      obtain ⟨k1, k2, k3⟩ := key s h40
      simp only [h40, decide_true, Bool.true_and]
      have hr : rok (mvI I c t x (gN g) (c + 1) s) := by
        cases hG : gG g s with
        | true => rw [(k1 hG).2]; exact rok_0
        | false => rw [← (k2 hG).1]; exact (k2 hG).2
      rw [isU_rok hr]
      by_cases hn : s < gN g
      · rw [hst s h40, if_pos hn] at k3 ⊢
        simp only [hn, decide_true, Bool.true_and, mvK]
        cases hl : lb x s with
        | true =>
          rw [hl] at k3
          have : mvN I c t (lb x) s = 1 := by simpa using k3
          rw [this]
          decide
        | false => simp
      · have hl : lb x s = false := by rw [hx s hs]; simp [hn]
        rw [hst s h40, if_neg hn, s1 s (by omega) h40, hl]
        simp [hn]
    · have h1 : mvL I L c t x (gN g) c 4 = orb x (mvK I c t (lb x)) (gN g) := by simp [mvL]
      rw [h1, lb_orb _ _ _ (by omega) s hs, hx s hs]
      have hn : ¬ s < gN g := by omega
      simp [h40, hn]
  · have h1 : mvL I L c t x (gN g) c 5 = x := by simp [mvL]
    rw [h1]
    by_cases h40 : s < 40
    · rw [(key s h40).2.2]; simp [h40]
    · rw [hx s hs]
      have hn : ¬ s < gN g := by omega
      simp [h40, hn]
theorem rgV_fr {I I' : wr_TI} {L L' : wr_TL} {t : Nat} {g : RG} (hV : rgV I L t g) (hI : ∀ a, t ≤ a → a ≤ t + 6 → a ≠ t + 3 → I' a = I a) (hL : L' t = L t) : rgV I' L' t g := by
  unfold rgV at *
  rw [hI t (by omega) (by omega) (by omega), hI (t + 1) (by omega) (by omega) (by omega), hI (t + 2) (by omega) (by omega) (by omega), hI (t + 4) (by omega) (by omega) (by omega), hI (t + 5) (by omega) (by omega) (by omega), hI (t + 6) (by omega) (by omega) (by omega), hL]
  exact hV
/-- what a tenth of the crowd at c over the ring at t leaves as it was -/
def frC (c t : Nat) (I : wr_TI) (L : wr_TL) (I' : wr_TI) (L' : wr_TL) : Prop := (∀ a, a < c ∨ c + 5 ≤ a → a ≠ t + 3 → I' a = I a) ∧ I' (c + 3) = I (c + 3) ∧ (∀ k, k ≠ 6 → I' c k = I c k) ∧ ∀ a, a ≠ c → L' a = L a
theorem crV_fr {I I' : wr_TI} {L : wr_TL} {c : Nat} {g : RG} {S : SS} (hS : crV I L c g S) (h0 : I' c = I c) (h1 : I' (c + 1) = I (c + 1)) (h2 : I' (c + 2) = I (c + 2)) : crV I' L c g S := by
  unfold crV at *
  rw [h0, h1, h2]
  exact hS
theorem wnt_0 {g : RG} {dr : Nat → Bool} {S : SS} {s : Nat} (h : wnt g dr S s = true) : S.1 s = 0 := by
  unfold wnt at h
  simp at h
  exact h.1.1
theorem lb_wnt (g : RG) (P : Nat → Bool) (hn : gN g ≤ 40) : ∀ s, s < 64 → lb (orb 0 P (gN g)) s = (decide (s < gN g) && P s) := by
  intro s hs
  rw [lb_orb _ _ _ (by omega) s hs, lb_0]
  simp
set_option maxHeartbeats 4000000 in
set_option maxRecDepth 100000 in
theorem cC_dream {l : Launch} {I : wr_TI} {L : wr_TL} {R : wr_TR} (c t : Nat) (g : RG) (S : SS) (dear : Int64) (dr : Nat → Bool) (hc : isC R c) (hg : isG R t) (hV : rgV I L t g) (hS : crV I L c g S) (hdr : ∀ s, lb dear s = dr s) : wr_P l 4 mX0_dreamOn [.ref c, .ref t, .long dear] SH I L R (fun v s' I' L' R' => v = some (.long (orb 0 (wnt g dr S) (gN g))) ∧ s' = SH ∧ R' = R ∧ crV I' L' c g (stp g (wnt g dr S) S) ∧ frC c t I L I' L') := by
  have hc' := hc
  have hg' := hg
  obtain ⟨z0, z1, c0, c1, c2, c3, c4, r0, r1, r2, r3⟩ := hc
  obtain ⟨y0, g0, g1, g2, g3, g4, g5, g6, p0, p1, p2, p3, p4, p5⟩ := hg
  refine wv_pad 2 ?_
  show wr_V l 4 mX0_dreamOn 0 [some (.ref c), some (.ref t), some (.long dear), none, none, none] [] SH I L R 0 0 _
  refine wv_aload_n dX0_dreamOn_0 rfl ?_
  refine wv_aload_n dX0_dreamOn_1 rfl ?_
  refine wv_lload_n dX0_dreamOn_2 rfl ?_
  refine wv_v2 oX0_willing kX0_92 dX0_dreamOn_3 (by omega) (by first | assumption | rfl) ⟨rfl, by decide⟩ (Nat.le_of_ble_eq_true rfl) (Nat.le_of_ble_eq_true rfl) (cC_willing c t g S dear dr hc' hg' hV hS hdr) (fun v9 s9 J L9 R9 h9 => ?_)
  obtain ⟨rfl, rfl, rfl, rfl, hJ⟩ := h9
  have hVJ : rgV J L9 t g := rgV_fr hV (fun a h1 h2 h3 => hJ a (by omega) h3) rfl
  have hSJ : crV J L9 c g S := crV_fr hS (hJ c (by omega) (by omega)) (hJ (c + 1) (by omega) (by omega)) (hJ (c + 2) (by omega) (by omega))
  refine wv_lstore dX0_dreamOn_6 (by decide) ?_
  refine wv_aload_n dX0_dreamOn_8 rfl ?_
  refine wv_aload_n dX0_dreamOn_9 rfl ?_
  refine wv_lload dX0_dreamOn_10 rfl ?_
  refine wv_v2u oX0_move kX0_106 dX0_dreamOn_12 (by omega) (by first | assumption | rfl) ⟨rfl, by decide⟩ (Nat.le_of_ble_eq_true rfl) (Nat.le_of_ble_eq_true rfl) (cC_move c t (gN g) _ hc' hg' hVJ.1 hVJ.2.2.1) ?_
  refine wv_lload dX0_dreamOn_15 rfl ?_
  refine wv_lret rfl dX0_dreamOn_17 ?_
  refine ⟨rfl, rfl, rfl, crV_move (by omega) hVJ hSJ (lb_wnt g _ hVJ.2.2.1) (fun s _ h => wnt_0 h), fun a h1 h2 => ?_, ?_, fun k hk => ?_, fun a ha => ?_⟩
  · rw [← hJ a (by omega) h2]
    funext b
    simp only [mvI, mvS]
    rw [if_neg (by omega), if_neg (by omega), if_neg (by omega)]
  · rw [← hJ (c + 3) (by omega) (by omega)]
    funext b
    simp only [mvI, mvS]
    rw [if_neg (by omega), if_neg (by omega), if_neg (by omega)]
  · rw [← hJ c (by omega) (by omega)]
    simp only [mvI, mvS]
    rw [if_neg (by omega), if_neg (by omega), if_neg (by omega)]
  · funext b
    simp [mvL, ha]

/-- how many tenths till nobody is up, k at most -/
def lv (g : RG) (dr : Nat → Bool) : Nat → SS → Nat
  | 0, _ => 0
  | k + 1, S => if upn g S = 0 then 0 else lv g dr k (stp g (wnt g dr S) S) + 1
theorem crV_u0 {I : wr_TI} {L : wr_TL} {c : Nat} {g : RG} {S : SS} (h : crV I L c g S) (hn : gN g ≤ 40) : L c 4 = 0 ↔ upn g S = 0 := by
  rw [← crV_up h hn, cn_pos]
  constructor
  · intro e i _
    rw [e, lb_0]
  · intro e
    apply lb_ext
    intro i hi
    rw [e i hi, lb_0]
theorem frC_trans {c t : Nat} {I I1 I2 : wr_TI} {L L1 L2 : wr_TL} (h1 : frC c t I L I1 L1) (h2 : frC c t I1 L1 I2 L2) : frC c t I L I2 L2 := ⟨fun a h3 h4 => (h2.1 a h3 h4).trans (h1.1 a h3 h4), h2.2.1.trans h1.2.1, fun k hk => (h2.2.2.1 k hk).trans (h1.2.2.1 k hk), fun a ha => (h2.2.2.2 a ha).trans (h1.2.2.2 a ha)⟩
theorem frC_rf {c t : Nat} {I : wr_TI} {L : wr_TL} : frC c t I L I L := ⟨fun _ _ _ => rfl, rfl, fun _ _ => rfl, fun _ _ => rfl⟩
theorem frC_V {c t : Nat} {I I1 : wr_TI} {L L1 : wr_TL} {g : RG} (hct : t + 8 ≤ c) (h : frC c t I L I1 L1) (hV : rgV I L t g) : rgV I1 L1 t g := rgV_fr hV (fun a h1 h2 h3 => h.1 a (by omega) h3) (h.2.2.2 t (by omega))
set_option maxHeartbeats 4000000 in
set_option maxRecDepth 100000 in
theorem cC_tillNo {l : Launch} {I : wr_TI} {L : wr_TL} {R : wr_TR} (c t m : Nat) (g : RG) (S : SS) (dear : Int64) (dr : Nat → Bool) (hc : isC R c) (hg : isG R t) (hm : m ≤ 401) (hV : rgV I L t g) (hS : crV I L c g S) (hdr : ∀ s, lb dear s = dr s) : wr_P l 5 mX0_tillNobodyUp [.ref c, .ref t, .long dear, .int (nI m)] SH I L R (fun v s' I' L' R' => v = some (.int (nI (lv g dr m S))) ∧ s' = SH ∧ R' = R ∧ frC c t I L I' L') := by
  have hc' := hc
  have hg' := hg
  obtain ⟨z0, z1, c0, c1, c2, c3, c4, r0, r1, r2, r3⟩ := hc
  obtain ⟨y0, g0, g1, g2, g3, g4, g5, g6, p0, p1, p2, p3, p4, p5⟩ := hg
  have lp : ∀ (k i : Nat) (S : SS) (J : wr_TI) (K : wr_TL), i + k = m → rgV J K t g → crV J K c g S → frC c t I L J K → wr_V l 5 mX0_tillNobodyUp 3 [some (.ref c), some (.ref t), some (.long dear), none, some (.int (nI m)), some (.int (nI i))] [] SH J K R 0 0 (fun v s' I' L' R' => v = some (.int (nI (i + lv g dr k S))) ∧ s' = SH ∧ R' = R ∧ frC c t I L I' L') := by
    intro k
    induction k with
    | zero =>
      intro i S J K hi hVJ hSJ hf
      obtain rfl : i = m := by omega
      refine wv_iload dX0_tillNobodyUp_3 rfl ?_
      refine wv_iload dX0_tillNobodyUp_5 rfl ?_
      refine wv_icmp_ge (tgt := 32) dX0_tillNobodyUp_7 (by decide) (fun h7 => ?_) (fun h7 => absurd (nI_le (Nat.le_refl _) (by omega)) h7)
      refine wv_iload dX0_tillNobodyUp_32 rfl ?_
      refine wv_iret rfl dX0_tillNobodyUp_34 ?_
      exact ⟨rfl, rfl, rfl, hf⟩
    | succ k ih =>
      intro i S J K hi hVJ hSJ hf
      have hu := crV_u0 hSJ hVJ.2.2.1
      refine wv_iload dX0_tillNobodyUp_3 rfl ?_
      refine wv_iload dX0_tillNobodyUp_5 rfl ?_
      refine wv_icmp_ge (tgt := 32) dX0_tillNobodyUp_7 (by decide) (fun h7 => absurd h7 (nI_ge (by omega) (by omega))) (fun h7 => ?_)
      refine wv_aload_n dX0_tillNobodyUp_10 rfl ?_
      refine wv_getL fX0_28 dX0_tillNobodyUp_11 rfl (by first | assumption | rfl) ?_
      refine wv_lconst (v := 0) dX0_tillNobodyUp_14 (by decide) ?_
      refine wv_lcmp dX0_tillNobodyUp_15 ?_
      refine wv_if_eq (tgt := 32) dX0_tillNobodyUp_16 (by decide) (fun h16 => ?_) (fun h16 => ?_)
      · rw [lg_cmp_eq, hu] at h16
        refine wv_iload dX0_tillNobodyUp_32 rfl ?_
        refine wv_iret rfl dX0_tillNobodyUp_34 ?_
        refine ⟨?_, rfl, rfl, hf⟩
        simp [lv, h16]
      · rw [lg_cmp_eq, hu] at h16
        refine wv_aload_n dX0_tillNobodyUp_19 rfl ?_
        refine wv_aload_n dX0_tillNobodyUp_20 rfl ?_
        refine wv_lload_n dX0_tillNobodyUp_21 rfl ?_
        refine wv_v2 oX0_dreamOn kX0_109 dX0_tillNobodyUp_22 (by omega) (by first | assumption | rfl) ⟨rfl, by decide⟩ (Nat.le_of_ble_eq_true rfl) (Nat.le_of_ble_eq_true rfl) (cC_dream c t g S dear dr hc' hg' hVJ hSJ hdr) (fun v9 s9 J9 L9 R9 h9 => ?_)
        obtain ⟨rfl, rfl, rfl, hS9, hf9⟩ := h9
        refine wv_pop2l dX0_tillNobodyUp_25 rfl ?_
        refine wv_iinc (v := nI (i + 1)) dX0_tillNobodyUp_26 rfl (nI_1 (i)) (by decide) ?_
        refine wv_goto (tgt := 3) dX0_tillNobodyUp_29 (by decide) ?_
        have := ih (i + 1) _ J9 L9 (by omega) (frC_V (by omega) hf9 hVJ) hS9 (frC_trans hf hf9)
        have e : lv g dr (k + 1) S = lv g dr k (stp g (wnt g dr S) S) + 1 := by simp [lv, h16]
        rw [e, show i + (lv g dr k (stp g (wnt g dr S) S) + 1) = i + 1 + lv g dr k (stp g (wnt g dr S) S) by omega]
        exact wv_le (by simp [wr_leq, wr_s1, wr_s2, wr_wide]) (this)
  refine wv_pad 1 ?_
  show wr_V l 5 mX0_tillNobodyUp 0 [some (.ref c), some (.ref t), some (.long dear), none, some (.int (nI m)), none] [] SH I L R 0 0 _
  refine wv_iconst (v := nI 0) dX0_tillNobodyUp_0 rfl ?_
  refine wv_istore dX0_tillNobodyUp_1 (by decide) ?_
  have := lp m 0 S I L (by omega) hV hS frC_rf
  rw [Nat.zero_add] at this
  exact wv_le (by simp [wr_leq, wr_s1, wr_s2, wr_wide]) (this)

