/-! the class's own methods over the crowd -/
theorem isC_18 {R : wr_TR} (hR : wr_RC R) : isC R 18 := ⟨by omega, by omega, rfl, rfl, rfl, rfl, rfl, hR _ _ _ rfl, hR _ _ _ rfl, hR _ _ _ rfl, hR _ _ _ rfl⟩
theorem isC_23 {R : wr_TR} (hR : wr_RC R) : isC R 23 := ⟨by omega, by omega, rfl, rfl, rfl, rfl, rfl, hR _ _ _ rfl, hR _ _ _ rfl, hR _ _ _ rfl, hR _ _ _ rfl⟩
theorem isC_40 {R : wr_TR} (hR : wr_RC R) : isC R 40 := ⟨by omega, by omega, rfl, rfl, rfl, rfl, rfl, hR _ _ _ rfl, hR _ _ _ rfl, hR _ _ _ rfl, hR _ _ _ rfl⟩
theorem isC_45 {R : wr_TR} (hR : wr_RC R) : isC R 45 := ⟨by omega, by omega, rfl, rfl, rfl, rfl, rfl, hR _ _ _ rfl, hR _ _ _ rfl, hR _ _ _ rfl, hR _ _ _ rfl⟩
theorem isC_50 {R : wr_TR} (hR : wr_RC R) : isC R 50 := ⟨by omega, by omega, rfl, rfl, rfl, rfl, rfl, hR _ _ _ rfl, hR _ _ _ rfl, hR _ _ _ rfl, hR _ _ _ rfl⟩
theorem isG_of {R : wr_TR} (hR : wr_RC R) {t : Nat} (ht : t = 3 ∨ t = 10) : isG R t := by
  rcases ht with rfl | rfl
  · exact ⟨by omega, rfl, rfl, rfl, rfl, rfl, rfl, rfl, hR _ _ _ rfl, hR _ _ _ rfl, hR _ _ _ rfl, hR _ _ _ rfl, hR _ _ _ rfl, hR _ _ _ rfl⟩
  · exact ⟨by omega, rfl, rfl, rfl, rfl, rfl, rfl, rfl, hR _ _ _ rfl, hR _ _ _ rfl, hR _ _ _ rfl, hR _ _ _ rfl, hR _ _ _ rfl, hR _ _ _ rfl⟩
/-- a fresh crowd; those of W try -/
def S0 (g : RG) : SS := (fun s => if gG g s = true then 40 else 0, fun _ => 0, 0, 0)
def tryP (W : Nat → Bool) (S : SS) : Nat → Bool := fun s => W s && decide (S.1 s = 0)
def tryS (W : Nat → Bool) (S : SS) : SS := (fun s => if tryP W S s = true then 1 else S.1 s, fun s => if tryP W S s = true then S.2.1 s + 1 else S.2.1 s, S.2.2.1, S.2.2.2 + 1)
theorem crV_fresh {I : wr_TI} {L : wr_TL} {c : Nat} {g : RG} : crV (zI I c) (zL L c) c g (S0 g) := by
  have h1 : ∀ s, s < 40 → zI I c (c + 1) s = 0 := fun s hs => by simp [zI, hs]
  have h2 : ∀ s, s < 40 → zI I c (c + 2) s = 0 := fun s hs => by simp [zI, hs]
  have h3 : zL L c c 4 = 0 := by simp [zL]
  have h4 : zL L c c 5 = 0 := by simp [zL]
  refine ⟨fun s hs => ⟨fun h => ⟨by simp [S0, h], h1 s hs⟩, fun h => ⟨by rw [h1 s hs]; simp [S0, h], by simp [S0, h]; exact rok_0⟩⟩, fun s _ hs => h1 s hs, fun s hs => by rw [h2 s hs]; rfl, by simp [zI, S0], by simp [zI, S0], fun s hs => ?_, fun s hs => ?_⟩
  · rw [h3, lb_0]
    by_cases h : s < 40
    · rw [h1 s h]; simp [isU]
    · simp [h]
  · rw [h4, lb_0]
    by_cases h : s < 40
    · rw [h1 s h]; simp
    · simp [h]
theorem crV_copy {I : wr_TI} {L : wr_TL} {c q : Nat} {g : RG} {S : SS} (hcq : c + 5 ≤ q ∨ q + 5 ≤ c) (h : crV I L q g S) : crV (yI I c q) (yL L c q) c g S := by
  have h1 : ∀ s, s < 40 → yI I c q (c + 1) s = I (q + 1) s := fun s hs => by simp [yI, hs]
  have h2 : ∀ s, s < 40 → yI I c q (c + 2) s = I (q + 2) s := fun s hs => by simp [yI, hs]
  have h3 : yL L c q c 4 = L q 4 := by simp [yL]
  have h4 : yL L c q c 5 = L q 5 := by simp [yL]
  have h5 : yI I c q c 6 = I q 6 := by simp [yI]
  have h6 : yI I c q c 7 = I q 7 := by simp [yI]
  obtain ⟨s0, s1, s2, s3, s4, s5, s6⟩ := h
  refine ⟨fun s hs => by rw [h1 s hs]; exact s0 s hs, fun s h9 hs => by rw [h1 s hs]; exact s1 s h9 hs, fun s hs => by rw [h2 s hs]; exact s2 s hs, by rw [h5]; exact s3, by rw [h6]; exact s4, fun s hs => ?_, fun s hs => ?_⟩
  · rw [h3, s5 s hs]
    by_cases h : s < 40
    · rw [h1 s h]
    · simp [h]
  · rw [h4, s6 s hs]
    by_cases h : s < 40
    · rw [h1 s h]
    · simp [h]
theorem tP_eq {I : wr_TI} {L : wr_TL} {c t : Nat} {g : RG} {S : SS} {who : Int64} (hV : rgV I L t g) (hS : crV I L c g S) {s : Nat} (hs : s < 40) : tP I L c t who s = tryP (lb who) S s := by
  unfold tP tryP
  rw [hV.2.2.2.1]
  obtain ⟨a1, a2⟩ := hS.1 s hs
  cases hG : gG g s with
  | true => rw [(a1 hG).1]; simp
  | false => rw [(a2 hG).1]; simp
theorem crV_raise {I : wr_TI} {L : wr_TL} {c t : Nat} {g : RG} {S : SS} {who : Int64} (hV : rgV I L t g) (hS : crV I L c g S) (hw : ∀ s, gN g ≤ s → lb who s = false) : crV (tI (tP I L c t who) I c) (trL (tP I L c t who) L c 40) c g (tryS (lb who) S) := by
  have hP : ∀ s, s < 40 → tP I L c t who s = tryP (lb who) S s := fun s hs => tP_eq hV hS hs
  have h1 : ∀ s, s < 40 → tI (tP I L c t who) I c (c + 1) s = if tryP (lb who) S s = true then 1 else I (c + 1) s := fun s hs => by
    simp only [tI, tr]
    rw [if_neg (by omega)]
    simp [hs, hP s hs]
  have h2 : ∀ s, s < 40 → tI (tP I L c t who) I c (c + 2) s = if tryP (lb who) S s = true then I (c + 2) s + 1 else I (c + 2) s := fun s hs => by
    simp only [tI, tr]
    rw [if_neg (by omega), if_neg (by omega)]
    simp [hs, hP s hs]
  have h3 : trL (tP I L c t who) L c 40 c 4 = orb (L c 4) (tP I L c t who) 40 := by simp [trL]
  have h4 : trL (tP I L c t who) L c 40 c 5 = orb (L c 5) (tP I L c t who) 40 := by simp [trL]
  obtain ⟨s0, s1, s2, s3, s4, s5, s6⟩ := hS
  refine ⟨fun s hs => ?_, fun s h9 hs => ?_, fun s hs => ?_, by simp [tI, tr, tryS, s3], by simp [tI, tryS, s4], fun s hs => ?_, fun s hs => ?_⟩
  · rw [h1 s hs]
    obtain ⟨a1, a2⟩ := s0 s hs
    refine ⟨fun hG => ?_, fun hG => ?_⟩
    · obtain ⟨b1, b2⟩ := a1 hG
      have : tryP (lb who) S s = false := by simp [tryP, b1]
      simp [tryS, this, b1, b2]
    · obtain ⟨b1, b2⟩ := a2 hG
      cases hp : tryP (lb who) S s with
      | true => simp [tryS, hp]; exact rok_1
      | false => simp [tryS, hp]; exact ⟨b1, b2⟩
  · rw [h1 s hs]
    have : tryP (lb who) S s = false := by simp [tryP, hw s h9]
    simp [this, s1 s h9 hs]
  · rw [h2 s hs, s2 s hs]; rfl
  · rw [h3, lb_orb _ _ _ (by omega) s hs, s5 s hs]
    by_cases h : s < 40
    · rw [h1 s h, hP s h]
      cases hp : tryP (lb who) S s <;> simp [h, isU]
    · simp [h]
  · rw [h4, lb_orb _ _ _ (by omega) s hs, s6 s hs]
    by_cases h : s < 40
    · rw [h1 s h, hP s h]
      cases hp : tryP (lb who) S s with
      | true => simp [h]
      | false => simp [h]
    · simp [h]
def frD (t : Nat) (I : wr_TI) (L : wr_TL) (I' : wr_TI) (L' : wr_TL) : Prop := (∀ a, a < 23 ∨ 28 ≤ a → a ≠ t + 3 → I' a = I a) ∧ ∀ a, a ≠ 23 → L' a = L a
theorem frD_rf {t : Nat} {I : wr_TI} {L : wr_TL} : frD t I L I L := ⟨fun _ _ _ => rfl, fun _ _ => rfl⟩
theorem frD_tr {t : Nat} {I I1 I2 : wr_TI} {L L1 L2 : wr_TL} (h1 : frD t I L I1 L1) (h2 : frD t I1 L1 I2 L2) : frD t I L I2 L2 := ⟨fun a h3 h4 => (h2.1 a h3 h4).trans (h1.1 a h3 h4), fun a ha => (h2.2 a ha).trans (h1.2 a ha)⟩
theorem frC_D {t : Nat} {I I' : wr_TI} {L L' : wr_TL} (h : frC 23 t I L I' L') : frD t I L I' L' := ⟨fun a h1 h2 => h.1 a (by omega) h2, h.2.2.2⟩
theorem frD_z {t : Nat} {I : wr_TI} {L : wr_TL} : frD t I L (zI I 23) (zL L 23) := ⟨fun a h1 _ => by funext b; simp only [zI]; rw [if_neg (by omega)], fun a ha => by funext b; simp [zL, ha]⟩
theorem frD_y {t q : Nat} {I : wr_TI} {L : wr_TL} : frD t I L (yI I 23 q) (yL L 23 q) := ⟨fun a h1 _ => by funext b; simp only [yI]; rw [if_neg (by omega), if_neg (by omega), if_neg (by omega), if_neg (by omega)], fun a ha => by funext b; simp [yL, ha]⟩
theorem frD_t {t : Nat} {P : Nat → Bool} {I : wr_TI} {L : wr_TL} : frD t I L (tI P I 23) (trL P L 23 40) := ⟨fun a h1 _ => by funext b; simp only [tI, tr]; rw [if_neg (by omega), if_neg (by omega), if_neg (by omega)], fun a ha => by funext b; simp [trL, ha]⟩
theorem frD_V {t : Nat} {I I1 : wr_TI} {L L1 : wr_TL} {g : RG} (ht : t = 3 ∨ t = 10) (h : frD t I L I1 L1) (hV : rgV I L t g) : rgV I1 L1 t g := rgV_fr hV (fun a h1 h2 h3 => h.1 a (by omega) h3) (h.2 t (by omega))
/-- seats from x on, k of them -/
def sfB (n x k : Nat) : Nat → Bool := fun s => decide (s < n) && decide ((s + n - x) % n < k)
theorem sf_lb {n x k : Nat} (hn : n ≤ 40) (h0 : 0 < n) (hx : x < n) (hk : k < 2 ^ 31) : lb (sf (nI n) (nI x) (nI k)) = sfB n x k := by
  funext s
  unfold sf
  have e : (if nI n < nI k then nI n else nI k) = nI (min k n) := by
    by_cases h : n < k
    · rw [if_pos (nI_lt h hk), Nat.min_eq_right (by omega)]
    · rw [if_neg (nI_nlt (by omega) (by omega)), Nat.min_eq_left (by omega)]
  rw [e, tu_lb (by omega) hn (fun i hi => by rw [lb_every _ (by omega)]; simp; omega), lb_every _ (by omega)]
  unfold sfB
  congr 1
  have := Nat.mod_lt (s + n - x) h0
  simp
  omega
theorem sfB_ge {n x k s : Nat} (h : n ≤ s) : sfB n x k s = false := by
  have : ¬ s < n := by omega
  simp [sfB, this]
def life (g : RG) (W dr : Nat → Bool) : Nat := lv g dr 200 (tryS W (S0 g))
set_option maxHeartbeats 4000000 in
set_option maxRecDepth 100000 in
theorem cW_lifeOf {l : Launch} {I : wr_TI} {L : wr_TL} {R : wr_TR} (hR : wr_RC R) (t : Nat) (ht : t = 3 ∨ t = 10) (hto : R 0 1 = t + 1) (g : RG) (hV : rgV I L t g) (who dear : Int64) (dr : Nat → Bool) (hdr : ∀ s, lb dear s = dr s) (hw : ∀ s, gN g ≤ s → lb who s = false) : wr_P l 6 mX7_lifeOf [.ref 0, .long who, .long dear] SH I L R (fun v s' I' L' R' => v = some (.int (nI (life g (lb who) dr))) ∧ s' = SH ∧ R' = R ∧ frD t I L I' L') := by
  have hg := isG_of hR ht
  have hc := isC_18 hR
  have hd := isC_23 hR
  obtain ⟨-, g0, -⟩ := id hg
  have hVz : rgV (zI I 23) (zL L 23) t g := frD_V ht frD_z hV
  have hSz : crV (zI I 23) (zL L 23) 23 g (S0 g) := crV_fresh
  have hSt := crV_raise hVz hSz hw
  have hVt := frD_V ht (frD_t (P := tP (zI I 23) (zL L 23) 23 t who)) hVz
  refine wv_pad 0 ?_
  show wr_V l 6 mX7_lifeOf 0 [some (.ref 0), some (.long who), none, some (.long dear), none] [] SH I L R 0 0 _
  refine wv_aload_n dX7_lifeOf_0 rfl ?_
  refine wv_getR fX7_42 dX7_lifeOf_1 rfl (by first | assumption | rfl) (by first | exact hR _ _ _ rfl | assumption) ?_
  refine wv_v0u oX0_freshen kX7_88 dX7_lifeOf_4 (by omega) (by first | assumption | rfl) ⟨rfl, by decide⟩ (Nat.le_of_ble_eq_true rfl) (Nat.le_of_ble_eq_true rfl) (cC_freshen 23 hd) ?_
  refine wv_aload_n dX7_lifeOf_7 rfl ?_
  refine wv_getR fX7_42 dX7_lifeOf_8 rfl (by first | assumption | rfl) (by first | exact hR _ _ _ rfl | assumption) ?_
  refine wv_aload_n dX7_lifeOf_11 rfl ?_
  refine wv_getR fX7_19 dX7_lifeOf_12 rfl (by first | assumption | rfl) (by first | exact hR _ _ _ rfl | assumption) ?_
  refine wv_lload_n dX7_lifeOf_15 rfl ?_
  refine wv_v2e oX0_raise kX7_107 dX7_lifeOf_16 (by omega) (by first | assumption | rfl) ⟨rfl, by decide⟩ (Nat.le_of_ble_eq_true rfl) (Nat.le_of_ble_eq_true rfl) (cC_raise 23 t who hd hg) ?_
  refine wv_pop dX7_lifeOf_19 rfl ?_
  refine wv_aload_n dX7_lifeOf_20 rfl ?_
  refine wv_getR fX7_42 dX7_lifeOf_21 rfl (by first | assumption | rfl) (by first | exact hR _ _ _ rfl | assumption) ?_
  refine wv_aload_n dX7_lifeOf_24 rfl ?_
  refine wv_getR fX7_19 dX7_lifeOf_25 rfl (by first | assumption | rfl) (by first | exact hR _ _ _ rfl | assumption) ?_
  refine wv_lload_n dX7_lifeOf_28 rfl ?_
  refine wv_sipush (v := 200) dX7_lifeOf_29 (by decide) ?_
  refine wv_v3 oX0_tillNobodyUp kX7_173 dX7_lifeOf_32 (by omega) (by first | assumption | rfl) ⟨rfl, by decide⟩ (Nat.le_of_ble_eq_true rfl) (Nat.le_of_ble_eq_true rfl) (cC_tillNo 23 t 200 g _ dear dr hd hg (by omega) hVt hSt hdr) (fun v9 s9 J9 L9 R9 h9 => ?_)
  obtain ⟨rfl, rfl, rfl, hf9⟩ := h9
  refine wv_iret rfl dX7_lifeOf_35 ?_
  exact ⟨rfl, rfl, rfl, frD_tr frD_z (frD_tr frD_t (frC_D hf9))⟩

set_option maxHeartbeats 4000000 in
set_option maxRecDepth 100000 in
theorem cW_canTry {l : Launch} {I : wr_TI} {L : wr_TL} {R : wr_TR} (hR : wr_RC R) (t : Nat) (ht : t = 3 ∨ t = 10) (hto : R 0 1 = t + 1) (g : RG) (hV : rgV I L t g) (x : Int32) : wr_E l 0 mX7_canTry [.ref 0, .int x] SH I L R (some (.int (if 1 ≤ x ∧ x ≤ 12 ∧ x ≤ nI (gN g) then 1 else 0))) I L R := by
  have hg := isG_of hR ht
  have hc := isC_18 hR
  have hd := isC_23 hR
  obtain ⟨-, g0, -⟩ := id hg
  have hn := hV.1
  refine wv_pad 0 ?_
  show wr_V l 0 mX7_canTry 0 [some (.ref 0), some (.int x)] [] SH I L R 0 0 _
  refine wv_iload_n dX7_canTry_0 rfl ?_
  refine wv_iconst (v := 1) dX7_canTry_1 (by decide) ?_
  refine wv_icmp_lt (tgt := 26) dX7_canTry_2 (by decide) (fun h2 => ?_) (fun h2 => ?_)
  · refine wv_iconst (v := 0) dX7_canTry_26 (by decide) ?_
    refine wv_zret rfl rfl dX7_canTry_27 ?_
    refine ⟨?_, rfl, rfl, rfl, rfl⟩
    grind
  · refine wv_iload_n dX7_canTry_5 rfl ?_
    refine wv_bipush (v := 12) dX7_canTry_6 (by decide) ?_
    refine wv_icmp_gt (tgt := 26) dX7_canTry_8 (by decide) (fun h8 => ?_) (fun h8 => ?_)
    · refine wv_iconst (v := 0) dX7_canTry_26 (by decide) ?_
      refine wv_zret rfl rfl dX7_canTry_27 ?_
      refine ⟨?_, rfl, rfl, rfl, rfl⟩
      grind
    · refine wv_iload_n dX7_canTry_11 rfl ?_
      refine wv_aload_n dX7_canTry_12 rfl ?_
      refine wv_getR fX7_19 dX7_canTry_13 rfl (by first | assumption | rfl) (by first | exact hR _ _ _ rfl | assumption) ?_
      refine wv_getI fX7_94 dX7_canTry_16 rfl (by first | assumption | rfl) ?_
      rw [hn]
      refine wv_icmp_gt (tgt := 26) dX7_canTry_19 (by decide) (fun h19 => ?_) (fun h19 => ?_)
      · refine wv_iconst (v := 0) dX7_canTry_26 (by decide) ?_
        refine wv_zret rfl rfl dX7_canTry_27 ?_
        refine ⟨?_, rfl, rfl, rfl, rfl⟩
        grind
      · refine wv_iconst (v := 1) dX7_canTry_22 (by decide) ?_
        refine wv_goto (tgt := 27) dX7_canTry_23 (by decide) ?_
        refine wv_zret rfl rfl dX7_canTry_27 ?_
        refine ⟨?_, rfl, rfl, rfl, rfl⟩
        grind

