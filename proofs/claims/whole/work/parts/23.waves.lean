/-! waves, wide, meet -/
def wvN (n : Nat) (u : Nat → Bool) : Nat := cn (fun s => u s && !u ((s + n - 1) % n)) n
def wvA (n : Nat) (u : Nat → Bool) : Int32 := if wvN n u = 0 ∧ u 0 = true then 1 else nI (wvN n u)
def uS (S : SS) : Nat → Bool := fun s => isU (S.1 s)
theorem cn_rot {n : Nat} {u : Nat → Bool} (h : wvN n u = 0) (h0 : u 0 = true) (hn : 0 < n) : ∀ s, s < n → u s = true := by
  have hs := cn_pos.mp h
  have st : ∀ k, k < n → u ((n - k) % n) = true := by
    intro k
    induction k with
    | zero => intro _; simpa using h0
    | succ k ih =>
      intro hk
      have h1 := ih (by omega)
      have h2 := hs ((n - k) % n) (Nat.mod_lt _ hn)
      rw [h1] at h2
      simp at h2
      have e : ((n - k) % n + n - 1) % n = (n - (k + 1)) % n := by
        by_cases hk0 : k = 0
        · subst hk0
          simp
        · rw [Nat.mod_eq_of_lt (by omega : n - k < n), show n - k + n - 1 = (n - (k + 1)) + n by omega, Nat.add_mod_right]
      rw [e] at h2
      exact h2
  intro s hsn
  by_cases h : s = 0
  · subst h; exact h0
  · have := st (n - s) (by omega)
    rwa [show n - (n - s) = s by omega, Nat.mod_eq_of_lt hsn] at this
theorem waves_eq {n : Nat} (hn : n ≤ 40) (h6 : 6 ≤ n) {x : Int64} {u : Nat → Bool} (hx : ∀ s, s < 64 → lb x s = (decide (s < n) && u s)) : (if x = (1 <<< ((nI n).toInt64 &&& 63)) - 1 then 1 else nI (cn (lb (x &&& (tu (nI n) 1 x ^^^ (-1)))) 64)) = wvA n u := by
  have hxl : ∀ i, n ≤ i → lb x i = false := by
    intro i hi
    by_cases h : i < 64
    · rw [hx i h]; have : ¬ i < n := by omega
      simp [this]
    · exact lb_big (by omega)
  have e1 : cn (lb (x &&& (tu (nI n) 1 x ^^^ (-1)))) 64 = wvN n u := by
    have e : ∀ s, s < 64 → lb (x &&& (tu (nI n) 1 x ^^^ (-1))) s = (decide (s < n) && (u s && !u ((s + n - 1) % n))) := by
      intro s hs
      rw [lb_and, lb_not _ hs, show (1 : Int32) = nI 1 from rfl, tu_lb (by omega) hn hxl, hx s hs]
      by_cases hsn : s < n
      · have hm := Nat.mod_lt (s + n - 1) (by omega : 0 < n)
        rw [hx _ (by omega)]
        simp [hsn, hm]
      · simp [hsn]
    rw [cn_congr e, cn_cut (m := n) (by omega) (fun i h1 _ => by have : ¬ i < n := by omega
                                                                 simp [this])]
    unfold wvN
    apply cn_congr
    intro i hi
    simp [hi]
  have e2 : x = (1 <<< ((nI n).toInt64 &&& 63)) - 1 ↔ ∀ s, s < n → u s = true := by
    constructor
    · intro h s hs
      have := hx s (by omega)
      rw [h, lb_every n (by omega)] at this
      simpa [hs] using this.symm
    · intro h
      apply lb_ext
      intro s hs
      rw [hx s hs, lb_every n (by omega)]
      by_cases hsn : s < n
      · simp [hsn, h s hsn]
      · simp [hsn]
  rw [e1]
  unfold wvA
  by_cases ha : ∀ s, s < n → u s = true
  · rw [if_pos (e2.mpr ha)]
    have : wvN n u = 0 := by
      unfold wvN
      apply cn_zero
      intro i hi
      rw [ha _ (Nat.mod_lt _ (by omega))]
      simp
    rw [if_pos ⟨this, ha 0 (by omega)⟩]
  · rw [if_neg (fun q => ha (e2.mp q)), if_neg]
    intro q
    exact ha (cn_rot q.1 q.2 (by omega))
def rn (n : Nat) (u : Nat → Bool) : Nat → Nat → Bool
  | 0, s => u s
  | k + 1, s => rn n u k s && rn n u k ((s + n - 1) % n)
def wdC (n : Nat) (u : Nat → Bool) : Nat → Nat → Nat
  | 0, w => w
  | r + 1, w => if cn (rn n u w) n = 0 then w else wdC n u r (w + 1)
theorem crV_ub {I : wr_TI} {L : wr_TL} {c : Nat} {g : RG} {S : SS} (h : crV I L c g S) (hn : gN g ≤ 40) : ∀ s, s < 64 → lb (L c 4) s = (decide (s < gN g) && uS S s) := by
  intro s hs
  rw [h.2.2.2.2.2.1 s hs]
  by_cases hsn : s < gN g
  · have h40 : s < 40 := by omega
    simp only [hsn, h40, decide_true, Bool.true_and, uS]
    exact (crV_st h h40).1.symm
  · by_cases h40 : s < 40
    · rw [h.2.1 s (by omega) h40]; simp [hsn, isU]
    · simp [hsn, h40]
theorem lb_0iff {n : Nat} (hn : n ≤ 40) {y : Int64} {f : Nat → Bool} (hy : ∀ s, s < 64 → lb y s = (decide (s < n) && f s)) : y = 0 ↔ cn f n = 0 := by
  rw [cn_pos]
  constructor
  · intro h i hi
    have := hy i (by omega)
    rw [h, lb_0] at this
    simpa [hi] using this.symm
  · intro h
    apply lb_ext
    intro i hi
    rw [hy i hi, lb_0]
    by_cases hin : i < n
    · simp [h i hin]
    · simp [hin]
set_option maxHeartbeats 4000000 in
set_option maxRecDepth 100000 in
theorem cR_widest {l : Launch} {I : wr_TI} {L : wr_TL} {R : wr_TR} (t n : Nat) (x : Int64) (u : Nat → Bool) (hs : SH[t]? = some (.inr 5)) (hn : I t 5 = nI n) (h6 : 6 ≤ n) (h40 : n ≤ 40) (hx : ∀ s, s < 64 → lb x s = (decide (s < n) && u s)) : wr_E l 2 mX5_widest [.ref t, .long x] SH I L R (some (.int (nI (wdC n u n 0)))) I L R := by
  have lp : ∀ (k i : Nat) (y : Int64), i + k = n → (∀ s, s < 64 → lb y s = (decide (s < n) && rn n u i s)) → wr_V l 2 mX5_widest 5 [some (.ref t), some (.long x), none, some (.long y), none, some (.int (nI i))] [] SH I L R 0 0 (wr_EQ (some (.int (nI (wdC n u k i)))) SH I L R) := by
    intro k
    induction k with
    | zero =>
      intro i y hi hy
      obtain rfl : i = n := by omega
      refine wv_iload dX5_widest_5 rfl ?_
      refine wv_aload_n dX5_widest_7 rfl ?_
      refine wv_getI fX5_35 dX5_widest_8 rfl (by first | assumption | rfl) ?_
      refine wv_icmp_ge (tgt := 35) dX5_widest_11 (by decide) (fun h11 => ?_) (fun h11 => absurd (by rw [hn]; exact nI_le (Nat.le_refl _) (by omega)) h11)
      refine wv_iload dX5_widest_35 rfl ?_
      refine wv_iret rfl dX5_widest_37 ?_
      exact ⟨rfl, rfl, rfl, rfl, rfl⟩
    | succ k ih =>
      intro i y hi hy
      have h0 := lb_0iff h40 hy
      refine wv_iload dX5_widest_5 rfl ?_
      refine wv_aload_n dX5_widest_7 rfl ?_
      refine wv_getI fX5_35 dX5_widest_8 rfl (by first | assumption | rfl) ?_
      refine wv_icmp_ge (tgt := 35) dX5_widest_11 (by decide) (fun h11 => absurd h11 (by rw [hn]; exact nI_ge (by omega) (by omega))) (fun h11 => ?_)
      refine wv_lload_n dX5_widest_14 rfl ?_
      refine wv_lconst (v := 0) dX5_widest_15 (by decide) ?_
      refine wv_lcmp dX5_widest_16 ?_
      refine wv_if_eq (tgt := 35) dX5_widest_17 (by decide) (fun h17 => ?_) (fun h17 => ?_)
      · rw [lg_cmp_eq, h0] at h17
        refine wv_iload dX5_widest_35 rfl ?_
        refine wv_iret rfl dX5_widest_37 ?_
        refine ⟨?_, rfl, rfl, rfl, rfl⟩
        simp [wdC, h17]
      · rw [lg_cmp_eq, h0] at h17
        refine wv_lload_n dX5_widest_20 rfl ?_
        refine wv_aload_n dX5_widest_21 rfl ?_
        refine wv_lload_n dX5_widest_22 rfl ?_
        refine wv_iconst (v := 1) dX5_widest_23 (by decide) ?_
        refine wv_v2e oX5_turned kX5_76 dX5_widest_24 (by omega) (by first | assumption | rfl) ⟨rfl, by decide⟩ (Nat.le_of_ble_eq_true rfl) (Nat.le_of_ble_eq_true rfl) (cR_turned _ _ _ (by assumption)) ?_
        refine wv_land dX5_widest_27 ?_
        refine wv_lstore_k (i := 3) dX5_widest_28 rfl (by decide) ?_
        refine wv_iinc (v := nI (i + 1)) dX5_widest_29 rfl (nI_1 (i)) (by decide) ?_
        refine wv_goto (tgt := 5) dX5_widest_32 (by decide) ?_
        have hyl : ∀ j, n ≤ j → lb y j = false := by
          intro j hj
          by_cases h : j < 64
          · rw [hy j h]; have : ¬ j < n := by omega
            simp [this]
          · exact lb_big (by omega)
        have e : wdC n u (k + 1) i = wdC n u k (i + 1) := by simp [wdC, h17]
        rw [e]
        refine wv_le ?_ (ih (i + 1) (y &&& tu (I t 5) 1 y) (by omega) (fun s hs9 => ?_))
        · simp [wr_leq, wr_s1, wr_s2, wr_wide]
        rw [lb_and, hn, show (1 : Int32) = nI 1 from rfl, tu_lb (by omega) h40 hyl, hy s hs9]
        by_cases hsn : s < n
        · have hm := Nat.mod_lt (s + n - 1) (by omega : 0 < n)
          rw [hy _ (by omega)]
          simp [hsn, hm, rn]
        · simp [hsn]
  refine wv_pad 3 ?_
  show wr_V l 2 mX5_widest 0 [some (.ref t), some (.long x), none, none, none, none] [] SH I L R 0 0 _
  refine wv_lload_n dX5_widest_0 rfl ?_
  refine wv_lstore_k (i := 3) dX5_widest_1 rfl (by decide) ?_
  refine wv_iconst (v := nI 0) dX5_widest_2 rfl ?_
  refine wv_istore dX5_widest_3 (by decide) ?_
  exact wv_le (by simp [wr_leq, wr_s1, wr_s2, wr_wide]) (lp n 0 x (by omega) hx)

def aWide (g : RG) (S : SS) : Int32 := nI (wdC (gN g) (uS S) (gN g) 0)
set_option maxHeartbeats 4000000 in
set_option maxRecDepth 100000 in
theorem cW_wide {l : Launch} {I : wr_TI} {L : wr_TL} {R : wr_TR} (hR : wr_RC R) (t : Nat) (ht : t = 3 ∨ t = 10) (hto : R 0 1 = t + 1) (g : RG) (hV : rgV I L t g) (F : FS) (hF : crF I L 18 g F) : wr_E l 3 mX7_wide [.ref 0] SH I L R (some (.int (aWide g F.1))) I L R := by
  have hg := isG_of hR ht
  have hc := isC_18 hR
  have hd := isC_23 hR
  obtain ⟨-, g0, -⟩ := id hg
  have hn := hV.1
  have hn6 := hV.2.1
  have hn40 := hV.2.2.1
  refine wv_pad 0 ?_
  show wr_V l 3 mX7_wide 0 [some (.ref 0)] [] SH I L R 0 0 _
  refine wv_aload_n dX7_wide_0 rfl ?_
  refine wv_getR fX7_19 dX7_wide_1 rfl (by first | assumption | rfl) (by first | exact hR _ _ _ rfl | assumption) ?_
  refine wv_aload_n dX7_wide_4 rfl ?_
  refine wv_getR fX7_38 dX7_wide_5 rfl (by first | assumption | rfl) (by first | exact hR _ _ _ rfl | assumption) ?_
  refine wv_getL fX7_157 dX7_wide_8 rfl (by first | assumption | rfl) ?_
  refine wv_v1e oX5_widest kX7_160 dX7_wide_11 (by omega) (by first | assumption | rfl) ⟨rfl, by decide⟩ (Nat.le_of_ble_eq_true rfl) (Nat.le_of_ble_eq_true rfl) (cR_widest t (gN g) _ (uS F.1) g0 hn hn6 hn40 (crV_ub hF.1 hn40)) ?_
  refine wv_iret rfl dX7_wide_14 ?_
  exact ⟨rfl, rfl, rfl, rfl, rfl⟩

set_option maxHeartbeats 4000000 in
set_option maxRecDepth 100000 in
theorem cW_waves {l : Launch} {I : wr_TI} {L : wr_TL} {R : wr_TR} (hR : wr_RC R) (t : Nat) (ht : t = 3 ∨ t = 10) (hto : R 0 1 = t + 1) (g : RG) (hV : rgV I L t g) (F : FS) (hF : crF I L 18 g F) : wr_E l 3 mX7_waves [.ref 0] SH I L R (some (.int (wvA (gN g) (uS F.1)))) I L R := by
  have hg := isG_of hR ht
  have hc := isC_18 hR
  have hd := isC_23 hR
  obtain ⟨-, g0, -⟩ := id hg
  have hn := hV.1
  have hn6 := hV.2.1
  have hn40 := hV.2.2.1
  rw [← waves_eq hn40 hn6 (crV_ub hF.1 hn40), ← hn]
  refine wv_pad 0 ?_
  show wr_V l 3 mX7_waves 0 [some (.ref 0)] [] SH I L R 0 0 _
  refine wv_aload_n dX7_waves_0 rfl ?_
  refine wv_getR fX7_19 dX7_waves_1 rfl (by first | assumption | rfl) (by first | exact hR _ _ _ rfl | assumption) ?_
  refine wv_aload_n dX7_waves_4 rfl ?_
  refine wv_getR fX7_38 dX7_waves_5 rfl (by first | assumption | rfl) (by first | exact hR _ _ _ rfl | assumption) ?_
  refine wv_getL fX7_157 dX7_waves_8 rfl (by first | assumption | rfl) ?_
  refine wv_v1e oX5_stretches kX7_163 dX7_waves_11 (by omega) (by first | assumption | rfl) ⟨rfl, by decide⟩ (Nat.le_of_ble_eq_true rfl) (Nat.le_of_ble_eq_true rfl) (cR_stretches t _ g0) ?_
  refine wv_iret rfl dX7_waves_14 ?_
  exact ⟨rfl, rfl, rfl, rfl, rfl⟩

def itS (g : RG) (dr : Nat → Bool) : Nat → SS → SS
  | 0, S => S
  | k + 1, S => itS g dr k (stp g (wnt g dr S) S)
def aMeet (g : RG) (x y k : Int32) : Int32 := if oS g x ∧ oS g y ∧ oM g k then wvA (gN g) (uS (itS g (gD g) 60 (tryS (fun s => sfB (gN g) (tN x) (tN k) s || sfB (gN g) (tN y) (tN k) s) (S0 g)))) else -1
set_option maxHeartbeats 4000000 in
set_option maxRecDepth 100000 in
theorem cW_meet {l : Launch} {I : wr_TI} {L : wr_TL} {R : wr_TR} (hR : wr_RC R) (t : Nat) (ht : t = 3 ∨ t = 10) (hto : R 0 1 = t + 1) (g : RG) (hV : rgV I L t g) (x y kk : Int32) : wr_P l 6 mX7_meet [.ref 0, .int x, .int y, .int kk] SH I L R (fun v s' I' L' R' => v = some (.int (aMeet g x y kk)) ∧ s' = SH ∧ R' = R ∧ frD t I L I' L') := by
  have hg := isG_of hR ht
  have hc := isC_18 hR
  have hd := isC_23 hR
  obtain ⟨-, g0, -⟩ := id hg
  have hn := hV.1
  have hn6 := hV.2.1
  have hn40 := hV.2.2.1
  have lp : ∀ (k i : Nat) (S : SS) (J : wr_TI) (K : wr_TL), i + k = 60 → rgV J K t g → crV J K 23 g S → frD t I L J K → wr_V l 6 mX7_meet 73 [some (.ref 0), none, none, none, some (.int (nI i))] [] SH J K R 0 0 (fun v s' I' L' R' => v = some (.int (wvA (gN g) (uS (itS g (gD g) k S)))) ∧ s' = SH ∧ R' = R ∧ frD t I L I' L') := by
    intro k
    induction k with
    | zero =>
      intro i S J K hi hVJ hSJ hf
      obtain rfl : i = 60 := by omega
      refine wv_iload dX7_meet_73 rfl ?_
      refine wv_bipush (v := 60) dX7_meet_75 (by decide) ?_
      refine wv_icmp_ge (tgt := 105) dX7_meet_77 (by decide) (fun h77 => ?_) (fun h77 => absurd (nI_le (a := 60) (by omega) (by omega)) h77)
      refine wv_aload_n dX7_meet_105 rfl ?_
      refine wv_getR fX7_19 dX7_meet_106 rfl (by first | assumption | rfl) (by first | exact hR _ _ _ rfl | assumption) ?_
      refine wv_aload_n dX7_meet_109 rfl ?_
      refine wv_getR fX7_42 dX7_meet_110 rfl (by first | assumption | rfl) (by first | exact hR _ _ _ rfl | assumption) ?_
      refine wv_getL fX7_157 dX7_meet_113 rfl (by first | assumption | rfl) ?_
      refine wv_v1e oX5_stretches kX7_163 dX7_meet_116 (by omega) (by first | assumption | rfl) ⟨rfl, by decide⟩ (Nat.le_of_ble_eq_true rfl) (Nat.le_of_ble_eq_true rfl) (cR_stretches t _ g0) ?_
      refine wv_iret rfl dX7_meet_119 ?_
      refine ⟨?_, rfl, rfl, hf⟩
      rw [hVJ.1, waves_eq hn40 hn6 (crV_ub hSJ hn40)]
      rfl
    | succ k ih =>
      intro i S J K hi hVJ hSJ hf
      refine wv_iload dX7_meet_73 rfl ?_
      refine wv_bipush (v := 60) dX7_meet_75 (by decide) ?_
      refine wv_icmp_ge (tgt := 105) dX7_meet_77 (by decide) (fun h77 => absurd h77 (nI_ge (b := 60) (by omega) (by omega))) (fun h77 => ?_)
      refine wv_aload_n dX7_meet_80 rfl ?_
      refine wv_getR fX7_42 dX7_meet_81 rfl (by first | assumption | rfl) (by first | exact hR _ _ _ rfl | assumption) ?_
      refine wv_aload_n dX7_meet_84 rfl ?_
      refine wv_getR fX7_19 dX7_meet_85 rfl (by first | assumption | rfl) (by first | exact hR _ _ _ rfl | assumption) ?_
      refine wv_aload_n dX7_meet_88 rfl ?_
      refine wv_getR fX7_19 dX7_meet_89 rfl (by first | assumption | rfl) (by first | exact hR _ _ _ rfl | assumption) ?_
      refine wv_getL fX7_143 dX7_meet_92 rfl (by first | assumption | rfl) ?_
      refine wv_v2 oX0_dreamOn kX7_170 dX7_meet_95 (by omega) (by first | assumption | rfl) ⟨rfl, by decide⟩ (Nat.le_of_ble_eq_true rfl) (Nat.le_of_ble_eq_true rfl) (cC_dream 23 t g S _ (gD g) hd hg hVJ hSJ hVJ.2.2.2.2.1) (fun v9 s9 J9 L9 R9 h9 => ?_)
      obtain ⟨rfl, rfl, rfl, hS9, hf9⟩ := h9
      refine wv_pop2l dX7_meet_98 rfl ?_
      refine wv_iinc (v := nI (i + 1)) dX7_meet_99 rfl (nI_1 (i)) (by decide) ?_
      refine wv_goto (tgt := 73) dX7_meet_102 (by decide) ?_
      exact wv_le (by simp [wr_leq, wr_s1, wr_s2, wr_wide]) (ih (i + 1) _ J9 L9 (by omega) (frC_V (by omega) hf9 hVJ) hS9 (frD_tr hf (frC_D hf9)))
  refine wv_pad 1 ?_
  show wr_V l 6 mX7_meet 0 [some (.ref 0), some (.int x), some (.int y), some (.int kk), none] [] SH I L R 0 0 _
  refine wv_aload_n dX7_meet_0 rfl ?_
  refine wv_getR fX7_19 dX7_meet_1 rfl (by first | assumption | rfl) (by first | exact hR _ _ _ rfl | assumption) ?_
  refine wv_iload_n dX7_meet_4 rfl ?_
  refine wv_v1e oX5_has kX7_125 dX7_meet_5 (by omega) (by first | assumption | rfl) ⟨rfl, by decide⟩ (Nat.le_of_ble_eq_true rfl) (Nat.le_of_ble_eq_true rfl) (cR_has t _ g0) ?_
  refine wv_if_eq (tgt := 30) dX7_meet_8 (by decide) (fun h8 => ?_) (fun h8 => ?_)
  · rw [hn, if10] at h8
    refine wv_iconst (v := (-1)) dX7_meet_30 (by decide) ?_
    refine wv_iret rfl dX7_meet_31 ?_
    refine ⟨?_, rfl, rfl, frD_rf⟩
    unfold aMeet
    rw [if_neg]
    grind
  · rw [hn, if10] at h8
    have hx : oS g x := Decidable.not_not.mp h8
    refine wv_aload_n dX7_meet_11 rfl ?_
    refine wv_getR fX7_19 dX7_meet_12 rfl (by first | assumption | rfl) (by first | exact hR _ _ _ rfl | assumption) ?_
    refine wv_iload_n dX7_meet_15 rfl ?_
    refine wv_v1e oX5_has kX7_125 dX7_meet_16 (by omega) (by first | assumption | rfl) ⟨rfl, by decide⟩ (Nat.le_of_ble_eq_true rfl) (Nat.le_of_ble_eq_true rfl) (cR_has t _ g0) ?_
    refine wv_if_eq (tgt := 30) dX7_meet_19 (by decide) (fun h19 => ?_) (fun h19 => ?_)
    · rw [hn, if10] at h19
      refine wv_iconst (v := (-1)) dX7_meet_30 (by decide) ?_
      refine wv_iret rfl dX7_meet_31 ?_
      refine ⟨?_, rfl, rfl, frD_rf⟩
      unfold aMeet
      rw [if_neg]
      grind
    · rw [hn, if10] at h19
      have hy : oS g y := Decidable.not_not.mp h19
      refine wv_aload_n dX7_meet_22 rfl ?_
      refine wv_iload_n dX7_meet_23 rfl ?_
      refine wv_v1e oX7_canTry kX7_177 dX7_meet_24 (by omega) (by first | assumption | rfl) ⟨rfl, by decide⟩ (Nat.le_of_ble_eq_true rfl) (Nat.le_of_ble_eq_true rfl) (cW_canTry hR t ht hto g hV _) ?_
      refine wv_if_ne (tgt := 32) dX7_meet_27 (by decide) (fun h27 => ?_) (fun h27 => ?_)
      · rw [if10] at h27
        have hk : oM g kk := Decidable.not_not.mp h27
        obtain ⟨a, ha, rfl⟩ := ix_of hx (by omega)
        obtain ⟨y0, hy0, rfl⟩ := ix_of hy (by omega)
        obtain ⟨b, hb1, hb2, hb3, rfl⟩ := mk_of hk hn40
        have hVz : rgV (zI I 23) (zL L 23) t g := frD_V ht frD_z hV
        have hSz : crV (zI I 23) (zL L 23) 23 g (S0 g) := crV_fresh
        have hwb : lb (sf (zI I 23 t 5) (nI a) (nI b) ||| sf (zI I 23 t 5) (nI y0) (nI b)) = (fun s => sfB (gN g) a b s || sfB (gN g) y0 b s) := by
          funext s
          rw [lb_or, hVz.1, sf_lb hn40 (by omega) ha (by omega), sf_lb hn40 (by omega) hy0 (by omega)]
        have hSt := crV_raise (who := sf (zI I 23 t 5) (nI a) (nI b) ||| sf (zI I 23 t 5) (nI y0) (nI b)) hVz hSz (fun s hs => by rw [hwb]; simp [sfB_ge hs])
        have hVt := frD_V ht (frD_t (P := tP (zI I 23) (zL L 23) 23 t (sf (zI I 23 t 5) (nI a) (nI b) ||| sf (zI I 23 t 5) (nI y0) (nI b)))) hVz
        rw [hwb] at hSt
        refine wv_aload_n dX7_meet_32 rfl ?_
        refine wv_getR fX7_42 dX7_meet_33 rfl (by first | assumption | rfl) (by first | exact hR _ _ _ rfl | assumption) ?_
        refine wv_v0u oX0_freshen kX7_88 dX7_meet_36 (by omega) (by first | assumption | rfl) ⟨rfl, by decide⟩ (Nat.le_of_ble_eq_true rfl) (Nat.le_of_ble_eq_true rfl) (cC_freshen 23 hd) ?_
        refine wv_aload_n dX7_meet_39 rfl ?_
        refine wv_getR fX7_42 dX7_meet_40 rfl (by first | assumption | rfl) (by first | exact hR _ _ _ rfl | assumption) ?_
        refine wv_aload_n dX7_meet_43 rfl ?_
        refine wv_getR fX7_19 dX7_meet_44 rfl (by first | assumption | rfl) (by first | exact hR _ _ _ rfl | assumption) ?_
        refine wv_aload_n dX7_meet_47 rfl ?_
        refine wv_getR fX7_19 dX7_meet_48 rfl (by first | assumption | rfl) (by first | exact hR _ _ _ rfl | assumption) ?_
        refine wv_iload_n dX7_meet_51 rfl ?_
        refine wv_iload_n dX7_meet_52 rfl ?_
        refine wv_v2e oX5_seatsFrom kX7_180 dX7_meet_53 (by omega) (by first | assumption | rfl) ⟨rfl, by decide⟩ (Nat.le_of_ble_eq_true rfl) (Nat.le_of_ble_eq_true rfl) (cR_from t _ _ g0) ?_
        refine wv_aload_n dX7_meet_56 rfl ?_
        refine wv_getR fX7_19 dX7_meet_57 rfl (by first | assumption | rfl) (by first | exact hR _ _ _ rfl | assumption) ?_
        refine wv_iload_n dX7_meet_60 rfl ?_
        refine wv_iload_n dX7_meet_61 rfl ?_
        refine wv_v2e oX5_seatsFrom kX7_180 dX7_meet_62 (by omega) (by first | assumption | rfl) ⟨rfl, by decide⟩ (Nat.le_of_ble_eq_true rfl) (Nat.le_of_ble_eq_true rfl) (cR_from t _ _ g0) ?_
        refine wv_lor dX7_meet_65 ?_
        refine wv_v2e oX0_raise kX7_107 dX7_meet_66 (by omega) (by first | assumption | rfl) ⟨rfl, by decide⟩ (Nat.le_of_ble_eq_true rfl) (Nat.le_of_ble_eq_true rfl) (cC_raise 23 t _ hd hg) ?_
        refine wv_pop dX7_meet_69 rfl ?_
        refine wv_iconst (v := nI 0) dX7_meet_70 rfl ?_
        refine wv_istore dX7_meet_71 (by decide) ?_
        have := lp 60 0 _ _ _ (by omega) hVt hSt (frD_tr frD_z frD_t)
        unfold aMeet
        rw [tN_nI (by omega), tN_nI (by omega), tN_nI (by omega), if_pos ⟨hx, hy, hk⟩]
        exact wv_le (by simp [wr_leq, wr_s1, wr_s2, wr_wide]) (this)
      · rw [if10] at h27
        refine wv_iconst (v := (-1)) dX7_meet_30 (by decide) ?_
        refine wv_iret rfl dX7_meet_31 ?_
        refine ⟨?_, rfl, rfl, frD_rf⟩
        unfold aMeet
        rw [if_neg]
        grind

