/-! seat, image, back, seed, about -/
set_option maxHeartbeats 4000000 in
set_option maxRecDepth 100000 in
theorem cW_oneIf {l : Launch} {I : wr_TI} {L : wr_TL} {R : wr_TR} (b : Bool) : wr_E l 0 mX7_oneIf [.int (if b = true then 1 else 0)] SH I L R (some (.int (if b = true then 1 else 0))) I L R := by
  refine wv_pad 0 ?_
  show wr_V l 0 mX7_oneIf 0 [some (.int (if b = true then 1 else 0))] [] SH I L R 0 0 _
  refine wv_iload_n dX7_oneIf_0 rfl ?_
  refine wv_if_eq (tgt := 8) dX7_oneIf_1 (by decide) (fun h1 => ?_) (fun h1 => ?_)
  · refine wv_iconst (v := 0) dX7_oneIf_8 (by decide) ?_
    refine wv_iret rfl dX7_oneIf_9 ?_
    refine ⟨?_, rfl, rfl, rfl, rfl⟩
    rw [if10] at h1
    cases b <;> simp_all
  · refine wv_iconst (v := 1) dX7_oneIf_4 (by decide) ?_
    refine wv_goto (tgt := 9) dX7_oneIf_5 (by decide) ?_
    refine wv_iret rfl dX7_oneIf_9 ?_
    refine ⟨?_, rfl, rfl, rfl, rfl⟩
    rw [if10] at h1
    cases b <;> simp_all

def aSeat (g : RG) (S : SS) (x what : Int32) : Int32 := if oS g x then (if what = 0 then S.1 (tN x) else if what = 1 then S.2.1 (tN x) else if what = 2 then (if gG g (tN x) = true then 2 else if gD g (tN x) = true then 1 else 0) else if what = 3 then (if gF g (tN x) = true then 1 else 0) else -1) else -1
set_option maxHeartbeats 4000000 in
set_option maxRecDepth 100000 in
theorem cW_seat {l : Launch} {I : wr_TI} {L : wr_TL} {R : wr_TR} (hR : wr_RC R) (t : Nat) (ht : t = 3 ∨ t = 10) (hto : R 0 1 = t + 1) (g : RG) (hV : rgV I L t g) (F : FS) (hF : crF I L 18 g F) (x what : Int32) : wr_E l 1 mX7_seat [.ref 0, .int x, .int what] SH I L R (some (.int (aSeat g F.1 x what))) I L R := by
  have hg := isG_of hR ht
  have hc := isC_18 hR
  have hd := isC_23 hR
  obtain ⟨-, g0, g1, -⟩ := id hg
  have hn := hV.1
  have hn6 := hV.2.1
  have hn40 := hV.2.2.1
  refine wv_pad 1 ?_
  show wr_V l 1 mX7_seat 0 [some (.ref 0), some (.int x), some (.int what), none] [] SH I L R 0 0 _
  refine wv_aload_n dX7_seat_0 rfl ?_
  refine wv_getR fX7_19 dX7_seat_1 rfl (by first | assumption | rfl) (by first | exact hR _ _ _ rfl | assumption) ?_
  refine wv_iload_n dX7_seat_4 rfl ?_
  refine wv_v1e oX5_has kX7_125 dX7_seat_5 (by omega) (by first | assumption | rfl) ⟨rfl, by decide⟩ (Nat.le_of_ble_eq_true rfl) (Nat.le_of_ble_eq_true rfl) (cR_has t _ g0) ?_
  refine wv_if_ne (tgt := 13) dX7_seat_8 (by decide) (fun h8 => ?_) (fun h8 => ?_)
  · rw [hn, if10] at h8
    have hx : oS g x := Decidable.not_not.mp h8
    obtain ⟨a, ha, rfl⟩ := ix_of hx (by omega)
    have hcr := hF.1.1 a (by omega)
    have hro := hF.1.2.2.1 a (by omega)
    have v3 := hV.2.2.2.1
    have v4 := hV.2.2.2.2.1
    have v5 := hV.2.2.2.2.2.1
    have ha31 : a < 2 ^ 31 := by omega
    refine wv_aload_n dX7_seat_13 rfl ?_
    refine wv_getR fX7_19 dX7_seat_14 rfl (by first | assumption | rfl) (by first | exact hR _ _ _ rfl | assumption) ?_
    refine wv_getL fX7_129 dX7_seat_17 rfl (by first | assumption | rfl) ?_
    refine wv_iload_n dX7_seat_20 rfl ?_
    refine wv_s2e oX7_holds kX7_132 dX7_seat_21 (by omega) (Nat.le_of_ble_eq_true rfl) (Nat.le_of_ble_eq_true rfl) (cW_holds _ _ (by omega)) ?_
    refine wv_istore_k (i := 3) dX7_seat_24 rfl (by decide) ?_
    refine wv_iload_n dX7_seat_25 rfl ?_
    by_cases hv26_0 : what = 0
    · subst hv26_0
      refine wv_tableIn (off := 30) (tgt := 56) dX7_seat_26 (by decide) (by decide) (by decide) (by decide) ?_
      refine wv_iload_n dX7_seat_56 rfl ?_
      refine wv_if_eq (tgt := 65) dX7_seat_57 (by decide) (fun h57 => ?_) (fun h57 => ?_)
      · refine wv_aload_n dX7_seat_65 rfl ?_
        refine wv_getR fX7_38 dX7_seat_66 rfl (by first | assumption | rfl) (by first | exact hR _ _ _ rfl | assumption) ?_
        refine wv_iload_n dX7_seat_69 rfl ?_
        refine wv_v1e oX0_stateOf kX7_136 dX7_seat_70 (by omega) (by first | assumption | rfl) ⟨rfl, by decide⟩ (Nat.le_of_ble_eq_true rfl) (Nat.le_of_ble_eq_true rfl) (cC_stateOf 18 a hc (by omega)) ?_
        refine wv_iret rfl dX7_seat_73 ?_
        refine ⟨?_, rfl, rfl, rfl, rfl⟩
        unfold aSeat
        first | rw [if_neg h8] | (rw [if_pos hx, tN_nI ha31]; cases hG : gG g a <;> simp_all)
      · refine wv_bipush (v := 40) dX7_seat_60 (by decide) ?_
        refine wv_goto (tgt := 73) dX7_seat_62 (by decide) ?_
        refine wv_iret rfl dX7_seat_73 ?_
        refine ⟨?_, rfl, rfl, rfl, rfl⟩
        unfold aSeat
        first | rw [if_neg h8] | (rw [if_pos hx, tN_nI ha31]; cases hG : gG g a <;> simp_all)
    by_cases hv26_1 : what = 1
    · subst hv26_1
      refine wv_tableIn (off := 48) (tgt := 74) dX7_seat_26 (by decide) (by decide) (by decide) (by decide) ?_
      refine wv_aload_n dX7_seat_74 rfl ?_
      refine wv_getR fX7_38 dX7_seat_75 rfl (by first | assumption | rfl) (by first | exact hR _ _ _ rfl | assumption) ?_
      refine wv_iload_n dX7_seat_78 rfl ?_
      refine wv_v1e oX0_risesOf kX7_140 dX7_seat_79 (by omega) (by first | assumption | rfl) ⟨rfl, by decide⟩ (Nat.le_of_ble_eq_true rfl) (Nat.le_of_ble_eq_true rfl) (cC_risesOf 18 a hc (by omega)) ?_
      refine wv_iret rfl dX7_seat_82 ?_
      refine ⟨?_, rfl, rfl, rfl, rfl⟩
      unfold aSeat
      first | rw [if_neg h8] | (rw [if_pos hx, tN_nI ha31]; cases hG : gG g a <;> simp_all)
    by_cases hv26_2 : what = 2
    · subst hv26_2
      refine wv_tableIn (off := 57) (tgt := 83) dX7_seat_26 (by decide) (by decide) (by decide) (by decide) ?_
      refine wv_iload_n dX7_seat_83 rfl ?_
      refine wv_if_eq (tgt := 91) dX7_seat_84 (by decide) (fun h84 => ?_) (fun h84 => ?_)
      · refine wv_aload_n dX7_seat_91 rfl ?_
        refine wv_getR fX7_19 dX7_seat_92 rfl (by first | assumption | rfl) (by first | exact hR _ _ _ rfl | assumption) ?_
        refine wv_getL fX7_143 dX7_seat_95 rfl (by first | assumption | rfl) ?_
        refine wv_iload_n dX7_seat_98 rfl ?_
        refine wv_s2e oX7_holds kX7_132 dX7_seat_99 (by omega) (Nat.le_of_ble_eq_true rfl) (Nat.le_of_ble_eq_true rfl) (cW_holds _ _ (by omega)) ?_
        refine wv_s1e oX7_oneIf kX7_146 dX7_seat_102 (by omega) (Nat.le_of_ble_eq_true rfl) (Nat.le_of_ble_eq_true rfl) (cW_oneIf _) ?_
        refine wv_iret rfl dX7_seat_105 ?_
        refine ⟨?_, rfl, rfl, rfl, rfl⟩
        unfold aSeat
        first | rw [if_neg h8] | (rw [if_pos hx, tN_nI ha31]; cases hG : gG g a <;> simp_all)
      · refine wv_iconst (v := 2) dX7_seat_87 (by decide) ?_
        refine wv_goto (tgt := 105) dX7_seat_88 (by decide) ?_
        refine wv_iret rfl dX7_seat_105 ?_
        refine ⟨?_, rfl, rfl, rfl, rfl⟩
        unfold aSeat
        first | rw [if_neg h8] | (rw [if_pos hx, tN_nI ha31]; cases hG : gG g a <;> simp_all)
    by_cases hv26_3 : what = 3
    · subst hv26_3
      refine wv_tableIn (off := 80) (tgt := 106) dX7_seat_26 (by decide) (by decide) (by decide) (by decide) ?_
      refine wv_aload_n dX7_seat_106 rfl ?_
      refine wv_getR fX7_19 dX7_seat_107 rfl (by first | assumption | rfl) (by first | exact hR _ _ _ rfl | assumption) ?_
      refine wv_getL fX7_103 dX7_seat_110 rfl (by first | assumption | rfl) ?_
      refine wv_iload_n dX7_seat_113 rfl ?_
      refine wv_s2e oX7_holds kX7_132 dX7_seat_114 (by omega) (Nat.le_of_ble_eq_true rfl) (Nat.le_of_ble_eq_true rfl) (cW_holds _ _ (by omega)) ?_
      refine wv_s1e oX7_oneIf kX7_146 dX7_seat_117 (by omega) (Nat.le_of_ble_eq_true rfl) (Nat.le_of_ble_eq_true rfl) (cW_oneIf _) ?_
      refine wv_iret rfl dX7_seat_120 ?_
      refine ⟨?_, rfl, rfl, rfl, rfl⟩
      unfold aSeat
      first | rw [if_neg h8] | (rw [if_pos hx, tN_nI ha31]; cases hG : gG g a <;> simp_all)
    refine wv_tableOut (tgt := 121) dX7_seat_26 (by have q0 : (what).toInt ≠ 0 := wr_ne hv26_0; have q1 : (what).toInt ≠ 1 := wr_ne hv26_1; have q2 : (what).toInt ≠ 2 := wr_ne hv26_2; have q3 : (what).toInt ≠ 3 := wr_ne hv26_3; omega) (by decide) ?_
    refine wv_iconst (v := (-1)) dX7_seat_121 (by decide) ?_
    refine wv_iret rfl dX7_seat_122 ?_
    refine ⟨?_, rfl, rfl, rfl, rfl⟩
    unfold aSeat
    first | rw [if_neg h8] | (rw [if_pos hx, tN_nI ha31]; cases hG : gG g a <;> simp_all)
  · rw [hn, if10] at h8
    refine wv_iconst (v := (-1)) dX7_seat_11 (by decide) ?_
    refine wv_iret rfl dX7_seat_12 ?_
    refine ⟨?_, rfl, rfl, rfl, rfl⟩
    unfold aSeat
    first | rw [if_neg h8] | (rw [if_pos hx, tN_nI ha31]; cases hG : gG g a <;> simp_all)

set_option maxHeartbeats 4000000 in
set_option maxRecDepth 100000 in
theorem cW_isBox {l : Launch} {I : wr_TI} {L : wr_TL} {R : wr_TR} (hR : wr_RC R) (x : Int32) : wr_E l 0 mX7_isBox [.ref 0, .int x] SH I L R (some (.int (if 0 ≤ x ∧ x < 3 then 1 else 0))) I L R := by
  refine wv_pad 0 ?_
  show wr_V l 0 mX7_isBox 0 [some (.ref 0), some (.int x)] [] SH I L R 0 0 _
  refine wv_iload_n dX7_isBox_0 rfl ?_
  refine wv_if_lt (tgt := 22) dX7_isBox_1 (by decide) (fun h1 => ?_) (fun h1 => ?_)
  · refine wv_iconst (v := 0) dX7_isBox_22 (by decide) ?_
    refine wv_zret rfl rfl dX7_isBox_23 ?_
    refine ⟨?_, rfl, rfl, rfl, rfl⟩
    grind
  · refine wv_iload_n dX7_isBox_4 rfl ?_
    refine wv_iconst (v := 3) dX7_isBox_5 (by decide) ?_
    refine wv_icmp_ge (tgt := 22) dX7_isBox_6 (by decide) (fun h6 => ?_) (fun h6 => ?_)
    · refine wv_iconst (v := 0) dX7_isBox_22 (by decide) ?_
      refine wv_zret rfl rfl dX7_isBox_23 ?_
      refine ⟨?_, rfl, rfl, rfl, rfl⟩
      grind
    · have hx : 0 ≤ x ∧ x < 3 := by grind
      obtain ⟨b, hb, rfl⟩ := ix_of (n := 3) hx (by omega)
      refine wv_aload_n dX7_isBox_9 rfl ?_
      refine wv_getR fX7_45 dX7_isBox_10 rfl (by first | assumption | rfl) (by first | exact hR _ _ _ rfl | assumption) ?_
      refine wv_iload_n dX7_isBox_13 rfl ?_
      refine wv_aald dX7_isBox_14 (by first | assumption | rfl) (vp_in_nI hb (by decide)) (show R 28 (nI b).toNatClampNeg = 40 + 5 * b + 1 by rw [nI_clamp (by omega)]; rcases (by omega : b = 0 ∨ b = 1 ∨ b = 2) with rfl | rfl | rfl <;> exact hR _ _ _ rfl) ?_
      refine wv_ifnull dX7_isBox_15 ?_
      refine wv_iconst (v := 1) dX7_isBox_18 (by decide) ?_
      refine wv_goto (tgt := 23) dX7_isBox_19 (by decide) ?_
      refine wv_zret rfl rfl dX7_isBox_23 ?_
      refine ⟨?_, rfl, rfl, rfl, rfl⟩
      grind

theorem isC_bx {R : wr_TR} (hR : wr_RC R) {b : Nat} (hb : b < 3) : isC R (40 + 5 * b) := by
  rcases (by omega : b = 0 ∨ b = 1 ∨ b = 2) with rfl | rfl | rfl
  · exact isC_40 hR
  · exact isC_45 hR
  · exact isC_50 hR
theorem bx_ref {R : wr_TR} (hR : wr_RC R) {b : Nat} (hb : b < 3) : R 28 (nI b).toNatClampNeg = 40 + 5 * b + 1 := by
  rw [nI_clamp (by omega)]
  rcases (by omega : b = 0 ∨ b = 1 ∨ b = 2) with rfl | rfl | rfl <;> exact hR _ _ _ rfl
set_option maxHeartbeats 4000000 in
set_option maxRecDepth 100000 in
theorem cW_image {l : Launch} {I : wr_TI} {L : wr_TL} {R : wr_TR} (hR : wr_RC R) (x : Int32) : wr_P l 1 mX7_image [.ref 0, .int x] SH I L R (fun v s' I' L' R' => s' = SH ∧ R' = R ∧ (¬ (0 ≤ x ∧ x < 3) → v = some (.int (-1)) ∧ I' = I ∧ L' = L) ∧ ∀ b, b < 3 → x = nI b → v = some (.int (I 18 6)) ∧ I' = wr_uI (yI I (40 + 5 * b) 18) 29 b 1 ∧ L' = yL L (40 + 5 * b) 18) := by
  have hc := isC_18 hR
  refine wv_pad 0 ?_
  show wr_V l 1 mX7_image 0 [some (.ref 0), some (.int x)] [] SH I L R 0 0 _
  refine wv_aload_n dX7_image_0 rfl ?_
  refine wv_iload_n dX7_image_1 rfl ?_
  refine wv_v1e oX7_isBox kX7_241 dX7_image_2 (by omega) (by first | assumption | rfl) ⟨rfl, by decide⟩ (Nat.le_of_ble_eq_true rfl) (Nat.le_of_ble_eq_true rfl) (cW_isBox hR _) ?_
  refine wv_if_ne (tgt := 10) dX7_image_5 (by decide) (fun h5 => ?_) (fun h5 => ?_)
  · rw [if10] at h5
    obtain ⟨b, hb, rfl⟩ := ix_of (n := 3) (Decidable.not_not.mp h5) (by omega)
    refine wv_aload_n dX7_image_10 rfl ?_
    refine wv_getR fX7_45 dX7_image_11 rfl (by first | assumption | rfl) (by first | exact hR _ _ _ rfl | assumption) ?_
    refine wv_iload_n dX7_image_14 rfl ?_
    refine wv_aald dX7_image_15 (by first | assumption | rfl) (vp_in_nI hb (by decide)) (bx_ref hR hb) ?_
    refine wv_aload_n dX7_image_16 rfl ?_
    refine wv_getR fX7_38 dX7_image_17 rfl (by first | assumption | rfl) (by first | exact hR _ _ _ rfl | assumption) ?_
    refine wv_v1u oX0_copy kX7_166 dX7_image_20 (by omega) (isC_bx hR hb).2.2.1 ⟨rfl, by decide⟩ (Nat.le_of_ble_eq_true rfl) (Nat.le_of_ble_eq_true rfl) (cC_copy (40 + 5 * b) 18 (isC_bx hR hb) hc (by omega)) ?_
    refine wv_aload_n dX7_image_23 rfl ?_
    refine wv_getR fX7_49 dX7_image_24 rfl (by first | assumption | rfl) (by first | exact hR _ _ _ rfl | assumption) ?_
    refine wv_iload_n dX7_image_27 rfl ?_
    refine wv_iconst (v := 1) dX7_image_28 (by decide) ?_
    refine wv_zastN dX7_image_29 (by first | assumption | rfl) hb (by decide) ?_
    refine wv_aload_n dX7_image_30 rfl ?_
    refine wv_getR fX7_38 dX7_image_31 rfl (by first | assumption | rfl) (by first | exact hR _ _ _ rfl | assumption) ?_
    refine wv_getI fX7_112 dX7_image_34 rfl (by first | assumption | rfl) ?_
    refine wv_iret rfl dX7_image_37 ?_
    refine ⟨rfl, rfl, fun q => absurd (Decidable.not_not.mp h5) q, fun b2 hb2 e => ?_⟩
    obtain rfl : b = b2 := (nI_eq (by omega) (by omega)).mp e
    refine ⟨?_, rfl, rfl⟩
    rw [wr_uI_ne (by omega)]
    simp only [yI]
    rw [if_neg (by omega), if_neg (by omega), if_neg (by omega), if_neg (by omega)]
  · rw [if10] at h5
    refine wv_iconst (v := (-1)) dX7_image_8 (by decide) ?_
    refine wv_iret rfl dX7_image_9 ?_
    refine ⟨rfl, rfl, fun _ => ⟨rfl, rfl, rfl⟩, fun b hb e => absurd ⟨by rw [e]; exact nI_pos' (by omega), by rw [e]; exact nI_lt (b := 3) hb (by omega)⟩ h5⟩

set_option maxHeartbeats 4000000 in
set_option maxRecDepth 100000 in
theorem cW_back {l : Launch} {I : wr_TI} {L : wr_TL} {R : wr_TR} (hR : wr_RC R) (x : Int32) : wr_P l 1 mX7_back [.ref 0, .int x] SH I L R (fun v s' I' L' R' => s' = SH ∧ R' = R ∧ (¬ (0 ≤ x ∧ x < 3) → v = some (.int (-1)) ∧ I' = I ∧ L' = L) ∧ ∀ b, b < 3 → x = nI b → (I 29 b = 0 → v = some (.int (-1)) ∧ I' = I ∧ L' = L) ∧ (¬ I 29 b = 0 → v = some (.int (I (40 + 5 * b) 6)) ∧ I' = yI I 18 (40 + 5 * b) ∧ L' = yL L 18 (40 + 5 * b))) := by
  have hc := isC_18 hR
  refine wv_pad 0 ?_
  show wr_V l 1 mX7_back 0 [some (.ref 0), some (.int x)] [] SH I L R 0 0 _
  refine wv_aload_n dX7_back_0 rfl ?_
  refine wv_iload_n dX7_back_1 rfl ?_
  refine wv_v1e oX7_isBox kX7_241 dX7_back_2 (by omega) (by first | assumption | rfl) ⟨rfl, by decide⟩ (Nat.le_of_ble_eq_true rfl) (Nat.le_of_ble_eq_true rfl) (cW_isBox hR _) ?_
  refine wv_if_eq (tgt := 17) dX7_back_5 (by decide) (fun h5 => ?_) (fun h5 => ?_)
  · rw [if10] at h5
    refine wv_iconst (v := (-1)) dX7_back_17 (by decide) ?_
    refine wv_iret rfl dX7_back_18 ?_
    first
    | (refine ⟨rfl, rfl, fun q => absurd (Decidable.not_not.mp h5) q, fun b2 hb2 e => ?_⟩
       obtain rfl : b = b2 := (nI_eq (by omega) (by omega)).mp e
       exact ⟨fun _ => ⟨rfl, rfl, rfl⟩, fun q => absurd h14 q⟩)
    | (refine ⟨rfl, rfl, fun _ => ⟨rfl, rfl, rfl⟩, fun b hb e => ?_⟩
       have h5b : 0 ≤ x ∧ x < 3 := ⟨by rw [e]; exact nI_pos' (by omega), by rw [e]; exact nI_lt (b := 3) hb (by omega)⟩
       exact absurd h5b h5)
  · rw [if10] at h5
    obtain ⟨b, hb, rfl⟩ := ix_of (n := 3) (Decidable.not_not.mp h5) (by omega)
    refine wv_aload_n dX7_back_8 rfl ?_
    refine wv_getR fX7_49 dX7_back_9 rfl (by first | assumption | rfl) (by first | exact hR _ _ _ rfl | assumption) ?_
    refine wv_iload_n dX7_back_12 rfl ?_
    refine wv_zaldN dX7_back_13 (by first | assumption | rfl) hb (by decide) ?_
    refine wv_if_ne (tgt := 19) dX7_back_14 (by decide) (fun h14 => ?_) (fun h14 => ?_)
    · refine wv_aload_n dX7_back_19 rfl ?_
      refine wv_getR fX7_38 dX7_back_20 rfl (by first | assumption | rfl) (by first | exact hR _ _ _ rfl | assumption) ?_
      refine wv_aload_n dX7_back_23 rfl ?_
      refine wv_getR fX7_45 dX7_back_24 rfl (by first | assumption | rfl) (by first | exact hR _ _ _ rfl | assumption) ?_
      refine wv_iload_n dX7_back_27 rfl ?_
      refine wv_aald dX7_back_28 (by first | assumption | rfl) (vp_in_nI hb (by decide)) (bx_ref hR hb) ?_
      refine wv_v1u oX0_copy kX7_166 dX7_back_29 (by omega) (by first | assumption | rfl) ⟨rfl, by decide⟩ (Nat.le_of_ble_eq_true rfl) (Nat.le_of_ble_eq_true rfl) (cC_copy 18 (40 + 5 * b) hc (isC_bx hR hb) (by omega)) ?_
      refine wv_aload_n dX7_back_32 rfl ?_
      refine wv_getR fX7_38 dX7_back_33 rfl (by first | assumption | rfl) (by first | exact hR _ _ _ rfl | assumption) ?_
      refine wv_getI fX7_112 dX7_back_36 rfl (by first | assumption | rfl) ?_
      refine wv_iret rfl dX7_back_39 ?_
      refine ⟨rfl, rfl, fun q => absurd (Decidable.not_not.mp h5) q, fun b2 hb2 e => ?_⟩
      obtain rfl : b = b2 := (nI_eq (by omega) (by omega)).mp e
      refine ⟨fun q => absurd q h14, fun _ => ⟨?_, rfl, rfl⟩⟩
      simp [yI]
    · refine wv_iconst (v := (-1)) dX7_back_17 (by decide) ?_
      refine wv_iret rfl dX7_back_18 ?_
      first
      | (refine ⟨rfl, rfl, fun q => absurd (Decidable.not_not.mp h5) q, fun b2 hb2 e => ?_⟩
         obtain rfl : b = b2 := (nI_eq (by omega) (by omega)).mp e
         exact ⟨fun _ => ⟨rfl, rfl, rfl⟩, fun q => absurd h14 q⟩)
      | (refine ⟨rfl, rfl, fun _ => ⟨rfl, rfl, rfl⟩, fun b hb e => ?_⟩
         have h5b : 0 ≤ x ∧ x < 3 := ⟨by rw [e]; exact nI_pos' (by omega), by rw [e]; exact nI_lt (b := 3) hb (by omega)⟩
         exact absurd h5b h5)

set_option maxHeartbeats 4000000 in
set_option maxRecDepth 100000 in
theorem cW_seed {l : Launch} {I : wr_TI} {L : wr_TL} {R : wr_TR} (hR : wr_RC R) (x : Int32) : wr_E l 0 mX7_seed [.ref 0, .int x] SH I L R (some (.int (I 18 8))) (wr_uI I 18 8 x) L R := by
  refine wv_pad 1 ?_
  show wr_V l 0 mX7_seed 0 [some (.ref 0), some (.int x), none] [] SH I L R 0 0 _
  refine wv_aload_n dX7_seed_0 rfl ?_
  refine wv_getR fX7_38 dX7_seed_1 rfl (by first | assumption | rfl) (by first | exact hR _ _ _ rfl | assumption) ?_
  refine wv_getI fX7_244 dX7_seed_4 rfl (by first | assumption | rfl) ?_
  refine wv_istore_k (i := 2) dX7_seed_7 rfl (by decide) ?_
  refine wv_aload_n dX7_seed_8 rfl ?_
  refine wv_getR fX7_38 dX7_seed_9 rfl (by first | assumption | rfl) (by first | exact hR _ _ _ rfl | assumption) ?_
  refine wv_iload_n dX7_seed_12 rfl ?_
  refine wv_putI fX7_244 dX7_seed_13 rfl rfl rfl rfl (by first | assumption | rfl) ?_
  refine wv_iload_n dX7_seed_16 rfl ?_
  refine wv_iret rfl dX7_seed_17 ?_
  exact ⟨rfl, rfl, rfl, rfl, rfl⟩

set_option maxHeartbeats 4000000 in
set_option maxRecDepth 100000 in
theorem cW_about {l : Launch} {I : wr_TI} {L : wr_TL} {R : wr_TR} (hR : wr_RC R) (t : Nat) (ht : t = 3 ∨ t = 10) (hto : R 0 1 = t + 1) (g : RG) (hV : rgV I L t g) (F : FS) (hF : crF I L 18 g F) (what : Int32) : wr_E l 1 mX7_about [.ref 0, .int what] SH I L R (some (.int (if what = 0 then nI (gN g) else if what = 1 then F.1.2.2.1 else if what = 2 then F.1.2.2.2 else if what = 3 then nI (upn g F.1) else if what = 4 then I 30 6 else if what = 5 then I 30 7 else if what = 6 then I 1 1 else if what = 7 then F.2.2 else if what = 8 then I (t + 1) 3 else -1))) I L R := by
  have hg := isG_of hR ht
  have hc := isC_18 hR
  have hd := isC_23 hR
  obtain ⟨-, g0, g1, -⟩ := id hg
  have hn := hV.1
  have hn6 := hV.2.1
  have hn40 := hV.2.2.1
  obtain ⟨-, -, -, -, -, -, -, -, p0, -⟩ := id hg
  have e1 : I 18 6 = F.1.2.2.1 := hF.1.2.2.2.1
  have e2 : I 18 7 = F.1.2.2.2 := hF.1.2.2.2.2.1
  have e3 := crV_up hF.1 hn40
  have e4 : I 18 8 = F.2.2 := hF.2.2
  refine wv_pad 0 ?_
  show wr_V l 1 mX7_about 0 [some (.ref 0), some (.int what)] [] SH I L R 0 0 _
  refine wv_iload_n dX7_about_0 rfl ?_
  by_cases hv1_0 : what = 0
  · subst hv1_0
    refine wv_tableIn (off := 51) (tgt := 52) dX7_about_1 (by decide) (by decide) (by decide) (by decide) ?_
    refine wv_aload_n dX7_about_52 rfl ?_
    refine wv_getR fX7_19 dX7_about_53 rfl (by first | assumption | rfl) (by first | exact hR _ _ _ rfl | assumption) ?_
    refine wv_getI fX7_94 dX7_about_56 rfl (by first | assumption | rfl) ?_
    refine wv_iret rfl dX7_about_59 ?_
    refine ⟨?_, rfl, rfl, rfl, rfl⟩
    first | rw [hn]; rfl | rw [e1]; rfl | rw [e2]; rfl | rw [e3]; rfl | rw [e4]; rfl | rfl | simp_all
  by_cases hv1_1 : what = 1
  · subst hv1_1
    refine wv_tableIn (off := 59) (tgt := 60) dX7_about_1 (by decide) (by decide) (by decide) (by decide) ?_
    refine wv_aload_n dX7_about_60 rfl ?_
    refine wv_getR fX7_38 dX7_about_61 rfl (by first | assumption | rfl) (by first | exact hR _ _ _ rfl | assumption) ?_
    refine wv_getI fX7_112 dX7_about_64 rfl (by first | assumption | rfl) ?_
    refine wv_iret rfl dX7_about_67 ?_
    refine ⟨?_, rfl, rfl, rfl, rfl⟩
    first | rw [hn]; rfl | rw [e1]; rfl | rw [e2]; rfl | rw [e3]; rfl | rw [e4]; rfl | rfl | simp_all
  by_cases hv1_2 : what = 2
  · subst hv1_2
    refine wv_tableIn (off := 67) (tgt := 68) dX7_about_1 (by decide) (by decide) (by decide) (by decide) ?_
    refine wv_aload_n dX7_about_68 rfl ?_
    refine wv_getR fX7_38 dX7_about_69 rfl (by first | assumption | rfl) (by first | exact hR _ _ _ rfl | assumption) ?_
    refine wv_getI fX7_247 dX7_about_72 rfl (by first | assumption | rfl) ?_
    refine wv_iret rfl dX7_about_75 ?_
    refine ⟨?_, rfl, rfl, rfl, rfl⟩
    first | rw [hn]; rfl | rw [e1]; rfl | rw [e2]; rfl | rw [e3]; rfl | rw [e4]; rfl | rfl | simp_all
  by_cases hv1_3 : what = 3
  · subst hv1_3
    refine wv_tableIn (off := 75) (tgt := 76) dX7_about_1 (by decide) (by decide) (by decide) (by decide) ?_
    refine wv_aload_n dX7_about_76 rfl ?_
    refine wv_getR fX7_38 dX7_about_77 rfl (by first | assumption | rfl) (by first | exact hR _ _ _ rfl | assumption) ?_
    refine wv_getL fX7_157 dX7_about_80 rfl (by first | assumption | rfl) ?_
    refine wv_s1e oJ13_bitCount_95d88 kX7_119 dX7_about_83 (by omega) (Nat.le_of_ble_eq_true rfl) (Nat.le_of_ble_eq_true rfl) (cJ_bits _) ?_
    refine wv_iret rfl dX7_about_86 ?_
    refine ⟨?_, rfl, rfl, rfl, rfl⟩
    first | rw [hn]; rfl | rw [e1]; rfl | rw [e2]; rfl | rw [e3]; rfl | rw [e4]; rfl | rfl | simp_all
  by_cases hv1_4 : what = 4
  · subst hv1_4
    refine wv_tableIn (off := 86) (tgt := 87) dX7_about_1 (by decide) (by decide) (by decide) (by decide) ?_
    refine wv_aload_n dX7_about_87 rfl ?_
    refine wv_getR fX7_56 dX7_about_88 rfl (by first | assumption | rfl) (by first | exact hR _ _ _ rfl | assumption) ?_
    refine wv_getI fX7_250 dX7_about_91 rfl (by first | assumption | rfl) ?_
    refine wv_iret rfl dX7_about_94 ?_
    refine ⟨?_, rfl, rfl, rfl, rfl⟩
    first | rw [hn]; rfl | rw [e1]; rfl | rw [e2]; rfl | rw [e3]; rfl | rw [e4]; rfl | rfl | simp_all
  by_cases hv1_5 : what = 5
  · subst hv1_5
    refine wv_tableIn (off := 94) (tgt := 95) dX7_about_1 (by decide) (by decide) (by decide) (by decide) ?_
    refine wv_aload_n dX7_about_95 rfl ?_
    refine wv_getR fX7_56 dX7_about_96 rfl (by first | assumption | rfl) (by first | exact hR _ _ _ rfl | assumption) ?_
    refine wv_getI fX7_217 dX7_about_99 rfl (by first | assumption | rfl) ?_
    refine wv_iret rfl dX7_about_102 ?_
    refine ⟨?_, rfl, rfl, rfl, rfl⟩
    first | rw [hn]; rfl | rw [e1]; rfl | rw [e2]; rfl | rw [e3]; rfl | rw [e4]; rfl | rfl | simp_all
  by_cases hv1_6 : what = 6
  · subst hv1_6
    refine wv_tableIn (off := 102) (tgt := 103) dX7_about_1 (by decide) (by decide) (by decide) (by decide) ?_
    refine wv_aload_n dX7_about_103 rfl ?_
    refine wv_getR fX7_12 dX7_about_104 rfl (by first | assumption | rfl) (by first | exact hR _ _ _ rfl | assumption) ?_
    refine wv_getI fX7_76 dX7_about_107 rfl (by first | assumption | rfl) ?_
    refine wv_iret rfl dX7_about_110 ?_
    refine ⟨?_, rfl, rfl, rfl, rfl⟩
    first | rw [hn]; rfl | rw [e1]; rfl | rw [e2]; rfl | rw [e3]; rfl | rw [e4]; rfl | rfl | simp_all
  by_cases hv1_7 : what = 7
  · subst hv1_7
    refine wv_tableIn (off := 110) (tgt := 111) dX7_about_1 (by decide) (by decide) (by decide) (by decide) ?_
    refine wv_aload_n dX7_about_111 rfl ?_
    refine wv_getR fX7_38 dX7_about_112 rfl (by first | assumption | rfl) (by first | exact hR _ _ _ rfl | assumption) ?_
    refine wv_getI fX7_244 dX7_about_115 rfl (by first | assumption | rfl) ?_
    refine wv_iret rfl dX7_about_118 ?_
    refine ⟨?_, rfl, rfl, rfl, rfl⟩
    first | rw [hn]; rfl | rw [e1]; rfl | rw [e2]; rfl | rw [e3]; rfl | rw [e4]; rfl | rfl | simp_all
  by_cases hv1_8 : what = 8
  · subst hv1_8
    refine wv_tableIn (off := 118) (tgt := 119) dX7_about_1 (by decide) (by decide) (by decide) (by decide) ?_
    refine wv_aload_n dX7_about_119 rfl ?_
    refine wv_getR fX7_19 dX7_about_120 rfl (by first | assumption | rfl) (by first | exact hR _ _ _ rfl | assumption) ?_
    refine wv_getR fX7_253 dX7_about_123 rfl (by first | assumption | rfl) (by first | exact hR _ _ _ rfl | assumption) ?_
    refine wv_getI fX7_257 dX7_about_126 rfl (by first | assumption | rfl) ?_
    refine wv_iret rfl dX7_about_129 ?_
    refine ⟨?_, rfl, rfl, rfl, rfl⟩
    first | rw [hn]; rfl | rw [e1]; rfl | rw [e2]; rfl | rw [e3]; rfl | rw [e4]; rfl | rfl | simp_all
  refine wv_tableOut (tgt := 130) dX7_about_1 (by have q0 : (what).toInt ≠ 0 := wr_ne hv1_0; have q1 : (what).toInt ≠ 1 := wr_ne hv1_1; have q2 : (what).toInt ≠ 2 := wr_ne hv1_2; have q3 : (what).toInt ≠ 3 := wr_ne hv1_3; have q4 : (what).toInt ≠ 4 := wr_ne hv1_4; have q5 : (what).toInt ≠ 5 := wr_ne hv1_5; have q6 : (what).toInt ≠ 6 := wr_ne hv1_6; have q7 : (what).toInt ≠ 7 := wr_ne hv1_7; have q8 : (what).toInt ≠ 8 := wr_ne hv1_8; omega) (by decide) ?_
  refine wv_iconst (v := (-1)) dX7_about_130 (by decide) ?_
  refine wv_iret rfl dX7_about_131 ?_
  refine ⟨?_, rfl, rfl, rfl, rfl⟩
  first | rw [hn]; rfl | rw [e1]; rfl | rw [e2]; rfl | rw [e3]; rfl | rw [e4]; rfl | rfl | simp_all

