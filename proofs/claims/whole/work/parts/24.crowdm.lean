/-! tryNow, run, would, way, till, dies, seat -/
def aTry (g : RG) (S : SS) : Int32 := nI (cn (tryP (gF g) S) (gN g))
def tryF (g : RG) (F : FS) : FS := (tryS (gF g) F.1, F.2.1, F.2.2)
theorem frL_t {t : Nat} {P : Nat → Bool} {I : wr_TI} {L : wr_TL} : frL 18 t I L (tI P I 18) (trL P L 18 40) := ⟨fun a h1 _ => by funext b; simp only [tI, tr]; rw [if_neg (by omega), if_neg (by omega), if_neg (by omega)], fun a ha => by funext b; simp [trL, ha]⟩
theorem frL_rf {c t : Nat} {I : wr_TI} {L : wr_TL} : frL c t I L I L := ⟨fun _ _ _ => rfl, fun _ _ => rfl⟩
theorem frL_tr {c t : Nat} {I I1 I2 : wr_TI} {L L1 L2 : wr_TL} (h1 : frL c t I L I1 L1) (h2 : frL c t I1 L1 I2 L2) : frL c t I L I2 L2 := ⟨fun a h3 h4 => (h2.1 a h3 h4).trans (h1.1 a h3 h4), fun a ha => (h2.2 a ha).trans (h1.2 a ha)⟩
theorem frL_V {t : Nat} {I I1 : wr_TI} {L L1 : wr_TL} {g : RG} (ht : t = 3 ∨ t = 10) (h : frL 18 t I L I1 L1) (hV : rgV I L t g) : rgV I1 L1 t g := rgV_fr hV (fun a h1 h2 h3 => h.1 a (by omega) h3) (h.2 t (by omega))
set_option maxHeartbeats 4000000 in
set_option maxRecDepth 100000 in
theorem cW_tryNow {l : Launch} {I : wr_TI} {L : wr_TL} {R : wr_TR} (hR : wr_RC R) (t : Nat) (ht : t = 3 ∨ t = 10) (hto : R 0 1 = t + 1) (g : RG) (hV : rgV I L t g) (F : FS) (hF : crF I L 18 g F) : wr_P l 2 mX7_tryNow [.ref 0] SH I L R (fun v s' I' L' R' => v = some (.int (aTry g F.1)) ∧ s' = SH ∧ R' = R ∧ crF I' L' 18 g (tryF g F) ∧ frL 18 t I L I' L') := by
  have hg := isG_of hR ht
  have hc := isC_18 hR
  have hd := isC_23 hR
  obtain ⟨-, g0, -⟩ := id hg
  have hn := hV.1
  have hn6 := hV.2.1
  have hn40 := hV.2.2.1
  have hfw : lb (L t 8) = gF g := funext hV.2.2.2.2.2.1
  have hS := crV_raise (who := L t 8) hV hF.1 (fun s hs => by rw [hfw]; exact (hV.2.2.2.2.2.2.1 s hs).2.2)
  rw [hfw] at hS
  refine wv_pad 0 ?_
  show wr_V l 2 mX7_tryNow 0 [some (.ref 0)] [] SH I L R 0 0 _
  refine wv_aload_n dX7_tryNow_0 rfl ?_
  refine wv_getR fX7_38 dX7_tryNow_1 rfl (by first | assumption | rfl) (by first | exact hR _ _ _ rfl | assumption) ?_
  refine wv_aload_n dX7_tryNow_4 rfl ?_
  refine wv_getR fX7_19 dX7_tryNow_5 rfl (by first | assumption | rfl) (by first | exact hR _ _ _ rfl | assumption) ?_
  refine wv_aload_n dX7_tryNow_8 rfl ?_
  refine wv_getR fX7_19 dX7_tryNow_9 rfl (by first | assumption | rfl) (by first | exact hR _ _ _ rfl | assumption) ?_
  refine wv_getL fX7_103 dX7_tryNow_12 rfl (by first | assumption | rfl) ?_
  refine wv_v2e oX0_raise kX7_107 dX7_tryNow_15 (by omega) (by first | assumption | rfl) ⟨rfl, by decide⟩ (Nat.le_of_ble_eq_true rfl) (Nat.le_of_ble_eq_true rfl) (cC_raise 18 t _ hc hg) ?_
  refine wv_iret rfl dX7_tryNow_18 ?_
  refine ⟨?_, rfl, rfl, ⟨hS, fun k hk => ?_, ?_⟩, frL_t⟩
  · unfold aTry
    rw [cn_congr (q := tryP (gF g) F.1) (fun i hi => by rw [tP_eq hV hF.1 hi, hfw]), cn_cut (m := gN g) hn40 (fun i h1 _ => by simp [tryP, (hV.2.2.2.2.2.2.1 i h1).2.2])]
  · have e : tI (tP I L 18 t (L t 8)) I 18 (18 + 3) k = I (18 + 3) k := by simp [tI, tr]
    rw [e]; exact hF.2.1 k hk
  · have e : tI (tP I L 18 t (L t 8)) I 18 18 8 = I 18 8 := by simp [tI, tr]
    rw [e]; exact hF.2.2

def rnG (g : RG) : Nat → FS → Int32 × FS
  | 0, F => (0, F)
  | k + 1, F => (nI (cn (rsE g F) (gN g)) + (rnG g k (stepF g F)).1, (rnG g k (stepF g F)).2)
def oRun (F : FS) (x : Int32) : Prop := 0 ≤ x ∧ x ≤ 400 ∧ x ≤ 1000000 - F.1.2.2.1
theorem cn_bits {n : Nat} (hn : n ≤ 40) {y : Int64} {f : Nat → Bool} (hy : ∀ s, s < 64 → lb y s = f s) (hf : ∀ s, n ≤ s → f s = false) : cn (lb y) 64 = cn f n := by
  rw [cn_congr hy, cn_cut (m := n) (by omega) (fun i h1 _ => hf i h1)]
set_option maxHeartbeats 4000000 in
set_option maxRecDepth 100000 in
theorem cW_run {l : Launch} {I : wr_TI} {L : wr_TL} {R : wr_TR} (hR : wr_RC R) (t : Nat) (ht : t = 3 ∨ t = 10) (hto : R 0 1 = t + 1) (g : RG) (hV : rgV I L t g) (F : FS) (hF : crF I L 18 g F) (x : Int32) : wr_P l 5 mX7_run [.ref 0, .int x] SH I L R (fun v s' I' L' R' => s' = SH ∧ R' = R ∧ frL 18 t I L I' L' ∧ (oRun F x → v = some (.int (rnG g (tN x) F).1) ∧ crF I' L' 18 g (rnG g (tN x) F).2) ∧ (¬ oRun F x → v = some (.int (-1)) ∧ crF I' L' 18 g F)) := by
  have hg := isG_of hR ht
  have hc := isC_18 hR
  have hd := isC_23 hR
  obtain ⟨-, g0, -⟩ := id hg
  have hn := hV.1
  have hn6 := hV.2.1
  have hn40 := hV.2.2.1
  have lp : ∀ (m : Nat), m ≤ 400 → ∀ (k i : Nat) (acc : Int32) (F : FS) (J : wr_TI) (K : wr_TL), i + k = m → rgV J K t g → crF J K 18 g F → frL 18 t I L J K → wr_V l 5 mX7_run 31 [some (.ref 0), some (.int (nI m)), some (.int acc), some (.int (nI i))] [] SH J K R 0 0 (fun v s' I' L' R' => v = some (.int (acc + (rnG g k F).1)) ∧ s' = SH ∧ R' = R ∧ crF I' L' 18 g (rnG g k F).2 ∧ frL 18 t I L I' L') := by
    intro m hm k
    induction k with
    | zero =>
      intro i acc F J K hi hVJ hFJ hf
      obtain rfl : i = m := by omega
      refine wv_iload_n dX7_run_31 rfl ?_
      refine wv_iload_n dX7_run_32 rfl ?_
      refine wv_icmp_ge (tgt := 59) dX7_run_33 (by decide) (fun h33 => ?_) (fun h33 => absurd (nI_le (Nat.le_refl _) (by omega)) h33)
      refine wv_iload_n dX7_run_59 rfl ?_
      refine wv_iret rfl dX7_run_60 ?_
      refine ⟨?_, rfl, rfl, hFJ, hf⟩
      show _ = some (Value.int (acc + 0))
      rw [Int32.add_zero]
    | succ k ih =>
      intro i acc F J K hi hVJ hFJ hf
      refine wv_iload_n dX7_run_31 rfl ?_
      refine wv_iload_n dX7_run_32 rfl ?_
      refine wv_icmp_ge (tgt := 59) dX7_run_33 (by decide) (fun h33 => absurd h33 (nI_ge (by omega) (by omega))) (fun h33 => ?_)
      refine wv_iload_n dX7_run_36 rfl ?_
      refine wv_aload_n dX7_run_37 rfl ?_
      refine wv_getR fX7_38 dX7_run_38 rfl (by first | assumption | rfl) (by first | exact hR _ _ _ rfl | assumption) ?_
      refine wv_aload_n dX7_run_41 rfl ?_
      refine wv_getR fX7_19 dX7_run_42 rfl (by first | assumption | rfl) (by first | exact hR _ _ _ rfl | assumption) ?_
      refine wv_v1 oX0_liveOn kX7_115 dX7_run_45 (by omega) (by first | assumption | rfl) ⟨rfl, by decide⟩ (Nat.le_of_ble_eq_true rfl) (Nat.le_of_ble_eq_true rfl) (cC_live 18 t g F hc hg hVJ hFJ) (fun v9 s9 J9 L9 R9 h9 => ?_)
      obtain ⟨⟨y, rfl, hy⟩, rfl, rfl, hF9, hf9⟩ := h9
      refine wv_s1e oJ13_bitCount_95d88 kX7_119 dX7_run_48 (by omega) (Nat.le_of_ble_eq_true rfl) (Nat.le_of_ble_eq_true rfl) (cJ_bits _) ?_
      refine wv_iadd dX7_run_51 ?_
      refine wv_istore_k (i := 2) dX7_run_52 rfl (by decide) ?_
      refine wv_iinc (v := nI (i + 1)) dX7_run_53 rfl (nI_1 (i)) (by decide) ?_
      refine wv_goto (tgt := 31) dX7_run_56 (by decide) ?_
      have e : cn (lb y) 64 = cn (rsE g F) (gN g) := cn_bits hn40 hy (fun s hs => rsE_ge hs)
      rw [e]
      have := ih (i + 1) (acc + nI (cn (rsE g F) (gN g))) (stepF g F) J9 L9 (by omega) (frL_V ht hf9 hVJ) hF9 (frL_tr hf hf9)
      rw [Int32.add_assoc] at this
      exact wv_le (by simp [wr_leq, wr_s1, wr_s2, wr_wide]) this
  refine wv_pad 2 ?_
  show wr_V l 5 mX7_run 0 [some (.ref 0), some (.int x), none, none] [] SH I L R 0 0 _
  refine wv_iload_n dX7_run_0 rfl ?_
  refine wv_if_lt (tgt := 25) dX7_run_1 (by decide) (fun h1 => ?_) (fun h1 => ?_)
  · refine wv_iconst (v := (-1)) dX7_run_25 (by decide) ?_
    refine wv_iret rfl dX7_run_26 ?_
    have hno : ¬ oRun F x := fun q => by
      have := q.1; have := q.2.1; have := q.2.2
      grind
    exact ⟨rfl, rfl, frL_rf, fun q => absurd q hno, fun _ => ⟨rfl, hF⟩⟩
  · refine wv_iload_n dX7_run_4 rfl ?_
    refine wv_sipush (v := 400) dX7_run_5 (by decide) ?_
    refine wv_icmp_gt (tgt := 25) dX7_run_8 (by decide) (fun h8 => ?_) (fun h8 => ?_)
    · refine wv_iconst (v := (-1)) dX7_run_25 (by decide) ?_
      refine wv_iret rfl dX7_run_26 ?_
      have hno : ¬ oRun F x := fun q => by
        have := q.1; have := q.2.1; have := q.2.2
        grind
      exact ⟨rfl, rfl, frL_rf, fun q => absurd q hno, fun _ => ⟨rfl, hF⟩⟩
    · refine wv_iload_n dX7_run_11 rfl ?_
      refine wv_ldc nX7_111 dX7_run_12 ?_
      refine wv_aload_n dX7_run_14 rfl ?_
      refine wv_getR fX7_38 dX7_run_15 rfl (by first | assumption | rfl) (by first | exact hR _ _ _ rfl | assumption) ?_
      refine wv_getI fX7_112 dX7_run_18 rfl (by first | assumption | rfl) ?_
      refine wv_isub dX7_run_21 ?_
      refine wv_icmp_le (tgt := 27) dX7_run_22 (by decide) (fun h22 => ?_) (fun h22 => ?_)
      · have hok : oRun F x := by
          rw [show I 18 6 = F.1.2.2.1 from hF.1.2.2.2.1] at h22
          exact ⟨Int32.not_lt.mp h1, Int32.not_lt.mp h8, h22⟩
        obtain ⟨m, hm, rfl⟩ := nI_of2 (M := 400) (n := 400) (x := x) rfl h1 hok.2.1
        refine wv_iconst (v := 0) dX7_run_27 (by decide) ?_
        refine wv_istore_k (i := 2) dX7_run_28 rfl (by decide) ?_
        refine wv_iconst (v := nI 0) dX7_run_29 rfl ?_
        refine wv_istore_k (i := 3) dX7_run_30 rfl (by decide) ?_
        refine wr_V.imp (wv_le (by simp [wr_leq, wr_s1, wr_s2, wr_wide]) (lp m hm m 0 0 F I L (by omega) hV hF frL_rf)) (fun v s' I' L' R' h => ?_)
        obtain ⟨q1, q2, q3, q4, q5⟩ := h
        rw [Int32.zero_add] at q1
        exact ⟨q2, q3, q5, fun _ => by rw [tN_nI (by omega)]; exact ⟨q1, q4⟩, fun q => absurd hok q⟩
      · rw [show I 18 6 = F.1.2.2.1 from hF.1.2.2.2.1] at h22
        refine wv_iconst (v := (-1)) dX7_run_25 (by decide) ?_
        refine wv_iret rfl dX7_run_26 ?_
        have hno : ¬ oRun F x := fun q => by
          have := q.1; have := q.2.1; have := q.2.2
          grind
        exact ⟨rfl, rfl, frL_rf, fun q => absurd q hno, fun _ => ⟨rfl, hF⟩⟩

def aWould (g : RG) (S : SS) : Int32 := nI (cn (wnt g (gD g) S) (gN g))
set_option maxHeartbeats 4000000 in
set_option maxRecDepth 100000 in
theorem cW_would {l : Launch} {I : wr_TI} {L : wr_TL} {R : wr_TR} (hR : wr_RC R) (t : Nat) (ht : t = 3 ∨ t = 10) (hto : R 0 1 = t + 1) (g : RG) (hV : rgV I L t g) (F : FS) (hF : crF I L 18 g F) : wr_P l 4 mX7_would [.ref 0] SH I L R (fun v s' I' L' R' => v = some (.int (aWould g F.1)) ∧ s' = SH ∧ L' = L ∧ R' = R ∧ ∀ a, a ≠ 22 → a ≠ t + 3 → I' a = I a) := by
  have hg := isG_of hR ht
  have hc := isC_18 hR
  have hd := isC_23 hR
  obtain ⟨-, g0, -⟩ := id hg
  have hn := hV.1
  have hn6 := hV.2.1
  have hn40 := hV.2.2.1
  refine wv_pad 0 ?_
  show wr_V l 4 mX7_would 0 [some (.ref 0)] [] SH I L R 0 0 _
  refine wv_aload_n dX7_would_0 rfl ?_
  refine wv_getR fX7_38 dX7_would_1 rfl (by first | assumption | rfl) (by first | exact hR _ _ _ rfl | assumption) ?_
  refine wv_aload_n dX7_would_4 rfl ?_
  refine wv_getR fX7_19 dX7_would_5 rfl (by first | assumption | rfl) (by first | exact hR _ _ _ rfl | assumption) ?_
  refine wv_aload_n dX7_would_8 rfl ?_
  refine wv_getR fX7_19 dX7_would_9 rfl (by first | assumption | rfl) (by first | exact hR _ _ _ rfl | assumption) ?_
  refine wv_getL fX7_143 dX7_would_12 rfl (by first | assumption | rfl) ?_
  refine wv_v2 oX0_willing kX7_150 dX7_would_15 (by omega) (by first | assumption | rfl) ⟨rfl, by decide⟩ (Nat.le_of_ble_eq_true rfl) (Nat.le_of_ble_eq_true rfl) (cC_willing 18 t g F.1 _ (gD g) hc hg hV hF.1 hV.2.2.2.2.1) (fun v9 s9 J9 L9 R9 h9 => ?_)
  obtain ⟨rfl, rfl, rfl, rfl, hJ⟩ := h9
  refine wv_s1e oJ13_bitCount_95d88 kX7_119 dX7_would_18 (by omega) (Nat.le_of_ble_eq_true rfl) (Nat.le_of_ble_eq_true rfl) (cJ_bits _) ?_
  refine wv_iret rfl dX7_would_21 ?_
  refine ⟨?_, rfl, rfl, rfl, hJ⟩
  unfold aWould
  rw [lb_rsP g F.1 hn40, cn_cut (m := gN g) (by omega) (fun i h1 _ => rsP_ge h1)]
  rw [cn_congr (q := wnt g (gD g) F.1) (fun i hi => by simp [rsP, hi])]

def aWay (F : FS) (x : Int32) : Int32 := if 0 ≤ x ∧ x < 3 then F.2.1 (tN x) else -1
set_option maxHeartbeats 4000000 in
set_option maxRecDepth 100000 in
theorem cW_way {l : Launch} {I : wr_TI} {L : wr_TL} {R : wr_TR} (hR : wr_RC R) (t : Nat) (ht : t = 3 ∨ t = 10) (hto : R 0 1 = t + 1) (g : RG) (hV : rgV I L t g) (F : FS) (hF : crF I L 18 g F) (x : Int32) : wr_E l 1 mX7_way [.ref 0, .int x] SH I L R (some (.int (aWay F x))) I L R := by
  have hg := isG_of hR ht
  have hc := isC_18 hR
  have hd := isC_23 hR
  obtain ⟨-, g0, -⟩ := id hg
  have hn := hV.1
  have hn6 := hV.2.1
  have hn40 := hV.2.2.1
  have e : aWay F x = (if 0 ≤ x ∧ x < 3 then I (18 + 3) x.toNatClampNeg else -1) := by
    unfold aWay
    by_cases h : 0 ≤ x ∧ x < 3
    · obtain ⟨a, ha, rfl⟩ := ix_of (n := 3) h (by omega)
      rw [if_pos h, if_pos h, tN_nI (by omega), nI_clamp (by omega), hF.2.1 a ha]
    · rw [if_neg h, if_neg h]
  rw [e]
  refine wv_pad 0 ?_
  show wr_V l 1 mX7_way 0 [some (.ref 0), some (.int x)] [] SH I L R 0 0 _
  refine wv_aload_n dX7_way_0 rfl ?_
  refine wv_getR fX7_38 dX7_way_1 rfl (by first | assumption | rfl) (by first | exact hR _ _ _ rfl | assumption) ?_
  refine wv_iload_n dX7_way_4 rfl ?_
  refine wv_v1e oX0_risenBy kX7_154 dX7_way_5 (by omega) (by first | assumption | rfl) ⟨rfl, by decide⟩ (Nat.le_of_ble_eq_true rfl) (Nat.le_of_ble_eq_true rfl) (cC_risenBy 18 _ hc) ?_
  refine wv_iret rfl dX7_way_8 ?_
  exact ⟨rfl, rfl, rfl, rfl, rfl⟩

def tlG (g : RG) (s tm : Nat) : Nat → Nat → Nat → SS → Int32
  | 0, _, _, _ => -1
  | k + 1, i, r, S => if (if wnt g (gD g) S s = true then r + 1 else r) = tm then nI i else tlG g s tm k (i + 1) (if wnt g (gD g) S s = true then r + 1 else r) (stp g (wnt g (gD g) S) S)
def aTill (g : RG) (S : SS) (x m : Int32) : Int32 := if oS g x ∧ 1 ≤ m ∧ m ≤ 9 then tlG g (tN x) (tN m) 400 1 0 S else -1
def aDies (g : RG) (S : SS) : Int32 := if 400 < lv g (gD g) 401 S then -1 else nI (lv g (gD g) 401 S)
set_option maxHeartbeats 4000000 in
set_option maxRecDepth 100000 in
theorem cW_till {l : Launch} {I : wr_TI} {L : wr_TL} {R : wr_TR} (hR : wr_RC R) (t : Nat) (ht : t = 3 ∨ t = 10) (hto : R 0 1 = t + 1) (g : RG) (hV : rgV I L t g) (F : FS) (hF : crF I L 18 g F) (x m : Int32) : wr_P l 5 mX7_till [.ref 0, .int x, .int m] SH I L R (fun v s' I' L' R' => v = some (.int (aTill g F.1 x m)) ∧ s' = SH ∧ R' = R ∧ frD t I L I' L') := by
  have hg := isG_of hR ht
  have hc := isC_18 hR
  have hd := isC_23 hR
  obtain ⟨-, g0, -⟩ := id hg
  have hn := hV.1
  have hn6 := hV.2.1
  have hn40 := hV.2.2.1
  have lp : ∀ (a b : Nat), a < gN g → 1 ≤ b → b ≤ 9 → ∀ (k i r : Nat) (S : SS) (J : wr_TI) (K : wr_TL), i + k = 401 → r < b → rgV J K t g → crV J K 23 g S → frD t I L J K → wr_V l 5 mX7_till 40 [some (.ref 0), some (.int (nI a)), some (.int (nI b)), some (.int (nI r)), some (.int (nI i))] [] SH J K R 0 0 (fun v s' I' L' R' => v = some (.int (tlG g a b k i r S)) ∧ s' = SH ∧ R' = R ∧ frD t I L I' L') := by
    intro a b ha hb1 hb9 k
    induction k with
    | zero =>
      intro i r S J K hi hr hVJ hSJ hf
      refine wv_iload dX7_till_40 rfl ?_
      refine wv_sipush (v := 400) dX7_till_42 (by decide) ?_
      refine wv_icmp_gt (tgt := 90) dX7_till_45 (by decide) (fun h45 => ?_) (fun h45 => absurd (nI_lt (a := 400) (by omega) (by omega)) h45)
      refine wv_iconst (v := (-1)) dX7_till_90 (by decide) ?_
      refine wv_iret rfl dX7_till_91 ?_
      exact ⟨rfl, rfl, rfl, hf⟩
    | succ k ih =>
      intro i r S J K hi hr hVJ hSJ hf
      have hwl := lb_wnt g (wnt g (gD g) S) hn40 a (by omega)
      have hal : a < gN g := ha
      simp only [hal, decide_true, Bool.true_and] at hwl
      refine wv_iload dX7_till_40 rfl ?_
      refine wv_sipush (v := 400) dX7_till_42 (by decide) ?_
      refine wv_icmp_gt (tgt := 90) dX7_till_45 (by decide) (fun h45 => absurd h45 (nI_nlt (a := 400) (by omega) (by omega))) (fun h45 => ?_)
      refine wv_aload_n dX7_till_48 rfl ?_
      refine wv_getR fX7_42 dX7_till_49 rfl (by first | assumption | rfl) (by first | exact hR _ _ _ rfl | assumption) ?_
      refine wv_aload_n dX7_till_52 rfl ?_
      refine wv_getR fX7_19 dX7_till_53 rfl (by first | assumption | rfl) (by first | exact hR _ _ _ rfl | assumption) ?_
      refine wv_aload_n dX7_till_56 rfl ?_
      refine wv_getR fX7_19 dX7_till_57 rfl (by first | assumption | rfl) (by first | exact hR _ _ _ rfl | assumption) ?_
      refine wv_getL fX7_143 dX7_till_60 rfl (by first | assumption | rfl) ?_
      refine wv_v2 oX0_dreamOn kX7_170 dX7_till_63 (by omega) (by first | assumption | rfl) ⟨rfl, by decide⟩ (Nat.le_of_ble_eq_true rfl) (Nat.le_of_ble_eq_true rfl) (cC_dream 23 t g S _ (gD g) hd hg hVJ hSJ hVJ.2.2.2.2.1) (fun v9 s9 J9 L9 R9 h9 => ?_)
      obtain ⟨rfl, rfl, rfl, hS9, hf9⟩ := h9
      refine wv_iload_n dX7_till_66 rfl ?_
      refine wv_s2e oX7_holds kX7_132 dX7_till_67 (by omega) (Nat.le_of_ble_eq_true rfl) (Nat.le_of_ble_eq_true rfl) (cW_holds _ _ (by omega)) ?_
      refine wv_if_eq (tgt := 76) dX7_till_70 (by decide) (fun h70 => ?_) (fun h70 => ?_)
      · have hw0 : wnt g (gD g) S a = false := by rw [hwl] at h70; cases hz : wnt g (gD g) S a <;> simp_all
        have er : (if wnt g (gD g) S a = true then r + 1 else r) = r := by rw [hw0]; rfl
        refine wv_iload_n dX7_till_76 rfl ?_
        refine wv_iload_n dX7_till_77 rfl ?_
        refine wv_icmp_ne (tgt := 84) dX7_till_78 (by decide) (fun h78 => ?_) (fun h78 => ?_)
        · refine wv_iinc (v := nI (i + 1)) dX7_till_84 rfl (nI_1 (i)) (by decide) ?_
          refine wv_goto (tgt := 40) dX7_till_87 (by decide) ?_
          first
          | (have e : tlG g a b (k + 1) i r S = tlG g a b k (i + 1) r (stp g (wnt g (gD g) S) S) := by
               conv => lhs; unfold tlG
               rw [er, if_neg (by omega)]
             rw [e]
             exact wv_le (by simp [wr_leq, wr_s1, wr_s2, wr_wide]) (ih (i + 1) r _ J9 L9 (by omega) hr (frC_V (by omega) hf9 hVJ) hS9 (frD_tr hf (frC_D hf9))))
          | (have h78n : ¬ r + 1 = b := fun q => h78 (by rw [q])
             have e : tlG g a b (k + 1) i r S = tlG g a b k (i + 1) (r + 1) (stp g (wnt g (gD g) S) S) := by
               conv => lhs; unfold tlG
               rw [er, if_neg h78n]
             rw [e]
             exact wv_le (by simp [wr_leq, wr_s1, wr_s2, wr_wide]) (ih (i + 1) (r + 1) _ J9 L9 (by omega) (by omega) (frC_V (by omega) hf9 hVJ) hS9 (frD_tr hf (frC_D hf9))))
        · refine wv_iload dX7_till_81 rfl ?_
          refine wv_iret rfl dX7_till_83 ?_
          refine ⟨?_, rfl, rfl, frD_tr hf (frC_D hf9)⟩
          have h78n := (nI_eq (by omega) (by omega)).mp h78
          unfold tlG
          rw [er, if_pos (by omega)]
      · have hw1 : wnt g (gD g) S a = true := by rw [hwl] at h70; cases hz : wnt g (gD g) S a <;> simp_all
        have er : (if wnt g (gD g) S a = true then r + 1 else r) = r + 1 := by rw [hw1]; rfl
        refine wv_iinc (v := nI (r + 1)) dX7_till_73 rfl (nI_1 (r)) (by decide) ?_
        refine wv_iload_n dX7_till_76 rfl ?_
        refine wv_iload_n dX7_till_77 rfl ?_
        refine wv_icmp_ne (tgt := 84) dX7_till_78 (by decide) (fun h78 => ?_) (fun h78 => ?_)
        · refine wv_iinc (v := nI (i + 1)) dX7_till_84 rfl (nI_1 (i)) (by decide) ?_
          refine wv_goto (tgt := 40) dX7_till_87 (by decide) ?_
          first
          | (have e : tlG g a b (k + 1) i r S = tlG g a b k (i + 1) r (stp g (wnt g (gD g) S) S) := by
               conv => lhs; unfold tlG
               rw [er, if_neg (by omega)]
             rw [e]
             exact wv_le (by simp [wr_leq, wr_s1, wr_s2, wr_wide]) (ih (i + 1) r _ J9 L9 (by omega) hr (frC_V (by omega) hf9 hVJ) hS9 (frD_tr hf (frC_D hf9))))
          | (have h78n : ¬ r + 1 = b := fun q => h78 (by rw [q])
             have e : tlG g a b (k + 1) i r S = tlG g a b k (i + 1) (r + 1) (stp g (wnt g (gD g) S) S) := by
               conv => lhs; unfold tlG
               rw [er, if_neg h78n]
             rw [e]
             exact wv_le (by simp [wr_leq, wr_s1, wr_s2, wr_wide]) (ih (i + 1) (r + 1) _ J9 L9 (by omega) (by omega) (frC_V (by omega) hf9 hVJ) hS9 (frD_tr hf (frC_D hf9))))
        · refine wv_iload dX7_till_81 rfl ?_
          refine wv_iret rfl dX7_till_83 ?_
          refine ⟨?_, rfl, rfl, frD_tr hf (frC_D hf9)⟩
          have h78n := (nI_eq (by omega) (by omega)).mp h78
          unfold tlG
          rw [er, if_pos (by omega)]
  refine wv_pad 2 ?_
  show wr_V l 5 mX7_till 0 [some (.ref 0), some (.int x), some (.int m), none, none] [] SH I L R 0 0 _
  refine wv_aload_n dX7_till_0 rfl ?_
  refine wv_getR fX7_19 dX7_till_1 rfl (by first | assumption | rfl) (by first | exact hR _ _ _ rfl | assumption) ?_
  refine wv_iload_n dX7_till_4 rfl ?_
  refine wv_v1e oX5_has kX7_125 dX7_till_5 (by omega) (by first | assumption | rfl) ⟨rfl, by decide⟩ (Nat.le_of_ble_eq_true rfl) (Nat.le_of_ble_eq_true rfl) (cR_has t _ g0) ?_
  refine wv_if_eq (tgt := 22) dX7_till_8 (by decide) (fun h8 => ?_) (fun h8 => ?_)
  · rw [hn, if10] at h8
    refine wv_iconst (v := (-1)) dX7_till_22 (by decide) ?_
    refine wv_iret rfl dX7_till_23 ?_
    refine ⟨?_, rfl, rfl, frD_rf⟩
    unfold aTill
    rw [if_neg]
    grind
  · rw [hn, if10] at h8
    have hx : oS g x := Decidable.not_not.mp h8
    refine wv_iload_n dX7_till_11 rfl ?_
    refine wv_iconst (v := 1) dX7_till_12 (by decide) ?_
    refine wv_icmp_lt (tgt := 22) dX7_till_13 (by decide) (fun h13 => ?_) (fun h13 => ?_)
    · refine wv_iconst (v := (-1)) dX7_till_22 (by decide) ?_
      refine wv_iret rfl dX7_till_23 ?_
      refine ⟨?_, rfl, rfl, frD_rf⟩
      unfold aTill
      rw [if_neg]
      grind
    · refine wv_iload_n dX7_till_16 rfl ?_
      refine wv_bipush (v := 9) dX7_till_17 (by decide) ?_
      refine wv_icmp_le (tgt := 24) dX7_till_19 (by decide) (fun h19 => ?_) (fun h19 => ?_)
      · obtain ⟨a, ha, rfl⟩ := ix_of hx (by omega)
        obtain ⟨b, hb, rfl⟩ := nI_of2 (M := 9) (n := 9) (x := m) rfl (by grind) h19
        have hb1 : 1 ≤ b := (nI_leI (a := 1) (by omega) (by omega)).mp (Int32.not_lt.mp h13)
        refine wv_aload_n dX7_till_24 rfl ?_
        refine wv_getR fX7_42 dX7_till_25 rfl (by first | assumption | rfl) (by first | exact hR _ _ _ rfl | assumption) ?_
        refine wv_aload_n dX7_till_28 rfl ?_
        refine wv_getR fX7_38 dX7_till_29 rfl (by first | assumption | rfl) (by first | exact hR _ _ _ rfl | assumption) ?_
        refine wv_v1u oX0_copy kX7_166 dX7_till_32 (by omega) (by first | assumption | rfl) ⟨rfl, by decide⟩ (Nat.le_of_ble_eq_true rfl) (Nat.le_of_ble_eq_true rfl) (cC_copy 23 18 hd hc (by omega)) ?_
        refine wv_iconst (v := nI 0) dX7_till_35 rfl ?_
        refine wv_istore_k (i := 3) dX7_till_36 rfl (by decide) ?_
        refine wv_iconst (v := nI 1) dX7_till_37 rfl ?_
        refine wv_istore dX7_till_38 (by decide) ?_
        have := lp a b ha hb1 hb 400 1 0 F.1 _ _ (by omega) (by omega) (frD_V ht frD_y hV) (crV_copy (by omega) hF.1) frD_y
        unfold aTill
        rw [tN_nI (by omega), tN_nI (by omega), if_pos ⟨hx, Int32.not_lt.mp h13, h19⟩]
        exact wv_le (by simp [wr_leq, wr_s1, wr_s2, wr_wide]) (this)
      · refine wv_iconst (v := (-1)) dX7_till_22 (by decide) ?_
        refine wv_iret rfl dX7_till_23 ?_
        refine ⟨?_, rfl, rfl, frD_rf⟩
        unfold aTill
        rw [if_neg]
        grind

set_option maxHeartbeats 4000000 in
set_option maxRecDepth 100000 in
theorem cW_dies {l : Launch} {I : wr_TI} {L : wr_TL} {R : wr_TR} (hR : wr_RC R) (t : Nat) (ht : t = 3 ∨ t = 10) (hto : R 0 1 = t + 1) (g : RG) (hV : rgV I L t g) (F : FS) (hF : crF I L 18 g F) : wr_P l 6 mX7_dies [.ref 0] SH I L R (fun v s' I' L' R' => v = some (.int (aDies g F.1)) ∧ s' = SH ∧ R' = R ∧ frD t I L I' L') := by
  have hg := isG_of hR ht
  have hc := isC_18 hR
  have hd := isC_23 hR
  obtain ⟨-, g0, -⟩ := id hg
  have hn := hV.1
  have hn6 := hV.2.1
  have hn40 := hV.2.2.1
  have hlv : lv g (gD g) 401 F.1 ≤ 401 := by
    have : ∀ k S, lv g (gD g) k S ≤ k := by
      intro k
      induction k with
      | zero => intro S; exact Nat.le_refl _
      | succ k ih => intro S; simp only [lv]; split
                     · omega
                     · have := ih (stp g (wnt g (gD g) S) S); omega
    exact this 401 _
  refine wv_pad 1 ?_
  show wr_V l 6 mX7_dies 0 [some (.ref 0), none] [] SH I L R 0 0 _
  refine wv_aload_n dX7_dies_0 rfl ?_
  refine wv_getR fX7_42 dX7_dies_1 rfl (by first | assumption | rfl) (by first | exact hR _ _ _ rfl | assumption) ?_
  refine wv_aload_n dX7_dies_4 rfl ?_
  refine wv_getR fX7_38 dX7_dies_5 rfl (by first | assumption | rfl) (by first | exact hR _ _ _ rfl | assumption) ?_
  refine wv_v1u oX0_copy kX7_166 dX7_dies_8 (by omega) (by first | assumption | rfl) ⟨rfl, by decide⟩ (Nat.le_of_ble_eq_true rfl) (Nat.le_of_ble_eq_true rfl) (cC_copy 23 18 hd hc (by omega)) ?_
  refine wv_aload_n dX7_dies_11 rfl ?_
  refine wv_getR fX7_42 dX7_dies_12 rfl (by first | assumption | rfl) (by first | exact hR _ _ _ rfl | assumption) ?_
  refine wv_aload_n dX7_dies_15 rfl ?_
  refine wv_getR fX7_19 dX7_dies_16 rfl (by first | assumption | rfl) (by first | exact hR _ _ _ rfl | assumption) ?_
  refine wv_aload_n dX7_dies_19 rfl ?_
  refine wv_getR fX7_19 dX7_dies_20 rfl (by first | assumption | rfl) (by first | exact hR _ _ _ rfl | assumption) ?_
  refine wv_getL fX7_143 dX7_dies_23 rfl (by first | assumption | rfl) ?_
  refine wv_sipush (v := 401) dX7_dies_26 (by decide) ?_
  refine wv_v3 oX0_tillNobodyUp kX7_173 dX7_dies_29 (by omega) (by first | assumption | rfl) ⟨rfl, by decide⟩ (Nat.le_of_ble_eq_true rfl) (Nat.le_of_ble_eq_true rfl) (cC_tillNo 23 t 401 g F.1 _ (gD g) hd hg (by omega) (frD_V ht frD_y hV) (crV_copy (by omega) hF.1) (frD_V ht (frD_y (q := 18)) hV).2.2.2.2.1) (fun v9 s9 J9 L9 R9 h9 => ?_)
  obtain ⟨rfl, rfl, rfl, hf9⟩ := h9
  refine wv_istore_k (i := 1) dX7_dies_32 rfl (by decide) ?_
  refine wv_iload_n dX7_dies_33 rfl ?_
  refine wv_sipush (v := 400) dX7_dies_34 (by decide) ?_
  refine wv_icmp_le (tgt := 44) dX7_dies_37 (by decide) (fun h37 => ?_) (fun h37 => ?_)
  · refine wv_iload_n dX7_dies_44 rfl ?_
    refine wv_iret rfl dX7_dies_45 ?_
    refine ⟨?_, rfl, rfl, frD_tr frD_y (frC_D hf9)⟩
    unfold aDies
    first
    | rw [if_neg (fun q => absurd h37 (nI_ge (a := 400) q (by omega)))]
    | rw [if_pos (by rcases Nat.lt_or_ge 400 (lv g (gD g) 401 F.1) with q | q
                     · exact q
                     · exact absurd (nI_le (b := 400) q (by omega)) h37)]
  · refine wv_iconst (v := (-1)) dX7_dies_40 (by decide) ?_
    refine wv_goto (tgt := 45) dX7_dies_41 (by decide) ?_
    refine wv_iret rfl dX7_dies_45 ?_
    refine ⟨?_, rfl, rfl, frD_tr frD_y (frC_D hf9)⟩
    unfold aDies
    first
    | rw [if_neg (fun q => absurd h37 (nI_ge (a := 400) q (by omega)))]
    | rw [if_pos (by rcases Nat.lt_or_ge 400 (lv g (gD g) 401 F.1) with q | q
                     · exact q
                     · exact absurd (nI_le (b := 400) q (by omega)) h37)]

