/-! the model: run, seat, way; what is put away and brought back; till, dies -/
theorem frS_rf {I : wr_TI} : frS I I := frM_rf
theorem frS_tr {I I1 I2 : wr_TI} (h1 : frS I I1) (h2 : frS I1 I2) : frS I I2 := frM_tr h1 h2
set_option maxHeartbeats 4000000 in
set_option maxRecDepth 100000 in
theorem xW_run {l : Launch} {I : wr_TI} {L : wr_TL} {R : wr_TR} (hR : wr_RC R) (g : RG) (F : FS) (ok : gOK g) (hg : mgV I g) (hF : mcF I F) (hz : mZ I) (tn : Nat) (htn : F.1.2.2.1 = nI tn) (htm : tn ≤ 1000000) (x : Int32) : wr_P l 5 mX8_run [.ref 55, .int x] SH I L R (fun v s' I' L' R' => s' = SH ∧ L' = L ∧ R' = R ∧ frS I I' ∧ (oRun F x → v = some (.int (rnG g (tN x) F).1) ∧ mcF I' (rnG g (tN x) F).2) ∧ (¬ oRun F x → v = some (.int (-1)) ∧ I' = I)) := by
  have ht : I 55 57 = nI tn := hF.1.2.2.1.trans htn
  have lp : ∀ (m : Nat), m ≤ 400 → ∀ (k i : Nat) (acc : Int32) (F : FS) (J : wr_TI), i + k = m → mcF J F → frS I J → wr_V l 5 mX8_run 29 [some (.ref 55), some (.int (nI m)), some (.int acc), some (.int (nI i))] [] SH J L R 0 0 (fun v s' I' L' R' => v = some (.int (acc + (rnG g k F).1)) ∧ s' = SH ∧ L' = L ∧ R' = R ∧ mcF I' (rnG g k F).2 ∧ frS I I') := by
    intro m hm k
    induction k with
    | zero =>
      intro i acc F J hi hFJ hf
      obtain rfl : i = m := by omega
      refine wv_iload_n dX8_run_29 rfl ?_
      refine wv_iload_n dX8_run_30 rfl ?_
      refine wv_icmp_ge (tgt := 48) dX8_run_31 (by decide) (fun h31 => ?_) (fun h31 => absurd (nI_le (Nat.le_refl _) (by omega)) h31)
      refine wv_iload_n dX8_run_48 rfl ?_
      refine wv_iret rfl dX8_run_49 ?_
      refine ⟨?_, rfl, rfl, rfl, hFJ, hf⟩
      show _ = some (Value.int (acc + 0))
      rw [Int32.add_zero]
    | succ k ih =>
      intro i acc F J hi hFJ hf
      refine wv_iload_n dX8_run_29 rfl ?_
      refine wv_iload_n dX8_run_30 rfl ?_
      refine wv_icmp_ge (tgt := 48) dX8_run_31 (by decide) (fun h31 => absurd h31 (nI_ge (by omega) (by omega))) (fun h31 => ?_)
      refine wv_iload_n dX8_run_34 rfl ?_
      refine wv_aload_n dX8_run_35 rfl ?_
      refine wv_iconst (v := 1) dX8_run_36 (by decide) ?_
      refine wv_v1 oX8_step kX8_431 dX8_run_37 (by omega) (by first | assumption | rfl) ⟨rfl, by decide⟩ (Nat.le_of_ble_eq_true rfl) (Nat.le_of_ble_eq_true rfl) (x_stepT hR g F ok (frS_g hf hg) hFJ (frS_z hf hz)) (fun v9 s9 J9 L9 R9 h9 => ?_)
      obtain ⟨rfl, rfl, rfl, rfl, hF9, hf9⟩ := h9
      refine wv_iadd dX8_run_40 ?_
      refine wv_istore_k (i := 2) dX8_run_41 rfl (by decide) ?_
      refine wv_iinc (v := nI (i + 1)) dX8_run_42 rfl (nI_1 (i)) (by decide) ?_
      refine wv_goto (tgt := 29) dX8_run_45 (by decide) ?_
      have := ih (i + 1) (acc + nI (cn (rsE g F) (gN g))) (stepF g F) J9 (by omega) hF9 (frS_tr hf hf9)
      rw [Int32.add_assoc] at this
      exact wv_le (by simp [wr_leq, wr_s1, wr_s2, wr_wide]) this
  refine wv_pad 2 ?_
  show wr_V l 5 mX8_run 0 [some (.ref 55), some (.int x), none, none] [] SH I L R 0 0 _
  refine wv_iload_n dX8_run_0 rfl ?_
  refine wv_if_lt (tgt := 23) dX8_run_1 (by decide) (fun h1 => ?_) (fun h1 => ?_)
  · refine wv_iconst (v := (-1)) dX8_run_23 (by decide) ?_
    refine wv_iret rfl dX8_run_24 ?_
    first
      | (have _ := hno; exact ⟨rfl, rfl, rfl, frS_rf, fun q => absurd q hno, fun _ => ⟨rfl, rfl⟩⟩)
      | exact ⟨rfl, rfl, rfl, frS_rf, fun q => absurd (Int32.not_lt.mpr q.1) (fun z => z h1), fun _ => ⟨rfl, rfl⟩⟩
      | exact ⟨rfl, rfl, rfl, frS_rf, fun q => absurd h8 (Int32.not_lt.mpr q.2.1), fun _ => ⟨rfl, rfl⟩⟩
  · refine wv_iload_n dX8_run_4 rfl ?_
    refine wv_sipush (v := 400) dX8_run_5 (by decide) ?_
    refine wv_icmp_gt (tgt := 23) dX8_run_8 (by decide) (fun h8 => ?_) (fun h8 => ?_)
    · refine wv_iconst (v := (-1)) dX8_run_23 (by decide) ?_
      refine wv_iret rfl dX8_run_24 ?_
      first
        | (have _ := hno; exact ⟨rfl, rfl, rfl, frS_rf, fun q => absurd q hno, fun _ => ⟨rfl, rfl⟩⟩)
        | exact ⟨rfl, rfl, rfl, frS_rf, fun q => absurd (Int32.not_lt.mpr q.1) (fun z => z h1), fun _ => ⟨rfl, rfl⟩⟩
        | exact ⟨rfl, rfl, rfl, frS_rf, fun q => absurd h8 (Int32.not_lt.mpr q.2.1), fun _ => ⟨rfl, rfl⟩⟩
    · obtain ⟨m, hm, rfl⟩ := nI_of2 (M := 400) (n := 400) (x := x) rfl h1 (Int32.not_lt.mp h8)
      refine wv_aload_n dX8_run_11 rfl ?_
      refine wv_getI fX8_381 dX8_run_12 rfl (by first | assumption | rfl) ?_
      refine wv_iload_n dX8_run_15 rfl ?_
      refine wv_iadd dX8_run_16 ?_
      refine wv_ldc_w nX8_430 dX8_run_17 ?_
      refine wv_icmp_le (tgt := 25) dX8_run_20 (by decide) (fun h20 => ?_) (fun h20 => ?_)
      · rw [ht, nI_add, show (1000000 : Int32) = nI 1000000 from rfl, nI_leI (by omega) (by omega)] at h20
        have hok : oRun F (nI m) := by
          refine ⟨nI_pos' (by omega), nI_le (b := 400) hm (by omega), ?_⟩
          rw [htn, show (1000000 : Int32) = nI 1000000 from rfl, pk_sub htm]
          exact nI_le (by omega) (by omega)
        refine wv_iconst (v := 0) dX8_run_25 (by decide) ?_
        refine wv_istore_k (i := 2) dX8_run_26 rfl (by decide) ?_
        refine wv_iconst (v := nI 0) dX8_run_27 rfl ?_
        refine wv_istore_k (i := 3) dX8_run_28 rfl (by decide) ?_
        refine wr_V.imp (wv_le (by simp [wr_leq, wr_s1, wr_s2, wr_wide]) (lp m hm m 0 0 F I (by omega) hF frS_rf)) (fun v s' I' L' R' h => ?_)
        obtain ⟨q1, q2, q3, q4, q5, q6⟩ := h
        rw [Int32.zero_add] at q1
        exact ⟨q2, q3, q4, q6, fun _ => by rw [tN_nI (by omega)]; exact ⟨q1, q5⟩, fun q => absurd hok q⟩
      · rw [ht, nI_add, show (1000000 : Int32) = nI 1000000 from rfl, nI_leI (by omega) (by omega)] at h20
        have hno : ¬ oRun F (nI m) := fun q => by
          have q3 := q.2.2
          rw [htn, show (1000000 : Int32) = nI 1000000 from rfl, pk_sub htm, nI_leI (by omega) (by omega)] at q3
          omega
        refine wv_iconst (v := (-1)) dX8_run_23 (by decide) ?_
        refine wv_iret rfl dX8_run_24 ?_
        first
          | (have _ := hno; exact ⟨rfl, rfl, rfl, frS_rf, fun q => absurd q hno, fun _ => ⟨rfl, rfl⟩⟩)
          | exact ⟨rfl, rfl, rfl, frS_rf, fun q => absurd (Int32.not_lt.mpr q.1) (fun z => z h1), fun _ => ⟨rfl, rfl⟩⟩
          | exact ⟨rfl, rfl, rfl, frS_rf, fun q => absurd h8 (Int32.not_lt.mpr q.2.1), fun _ => ⟨rfl, rfl⟩⟩

set_option maxHeartbeats 4000000 in
set_option maxRecDepth 100000 in
theorem xW_seat {l : Launch} {I : wr_TI} {L : wr_TL} {R : wr_TR} (hR : wr_RC R) (g : RG) (S : SS) (ok : gOK g) (hg : mgV I g) (hS : mcV I S) (x what : Int32) : wr_E l 1 mX8_seat [.ref 55, .int x, .int what] SH I L R (some (.int (aSeat g S x what))) I L R := by
  obtain ⟨k6, k40, -⟩ := id ok
  have hn : I 55 28 = nI (gN g) := hg.1
  refine wv_pad 0 ?_
  show wr_V l 1 mX8_seat 0 [some (.ref 55), some (.int x), some (.int what)] [] SH I L R 0 0 _
  refine wv_aload_n dX8_seat_0 rfl ?_
  refine wv_iload_n dX8_seat_1 rfl ?_
  refine wv_v1e oX8_isSeat kX8_435 dX8_seat_2 (by omega) (by first | assumption | rfl) ⟨rfl, by decide⟩ (Nat.le_of_ble_eq_true rfl) (Nat.le_of_ble_eq_true rfl) (x_isSeat _) ?_
  refine wv_if_ne (tgt := 10) dX8_seat_5 (by decide) (fun h5 => ?_) (fun h5 => ?_)
  · rw [hn, if10] at h5
    have hx : oS g x := Decidable.not_not.mp h5
    obtain ⟨a, ha, rfl⟩ := ix_of hx (by omega)
    have v1 := hS.1 a (by omega)
    have v2 := hS.2.1 a (by omega)
    have v3 := hg.2.1 a (by omega)
    have v4 := hg.2.2.1 a (by omega)
    have v5 := hg.2.2.2.1 a (by omega)
    have ha31 : a < 2 ^ 31 := by omega
    refine wv_iload_n dX8_seat_10 rfl ?_
    by_cases hv11_0 : what = 0
    · subst hv11_0
      refine wv_tableIn (off := 29) (tgt := 40) dX8_seat_11 (by decide) (by decide) (by decide) (by decide) ?_
      refine wv_aload_n dX8_seat_40 rfl ?_
      refine wv_getR fX8_72 dX8_seat_41 rfl (by first | assumption | rfl) (by first | exact hR _ _ _ rfl | assumption) ?_
      refine wv_iload_n dX8_seat_44 rfl ?_
      refine wv_ialdN dX8_seat_45 (by first | assumption | rfl) (by omega) (by decide) ?_
      refine wv_iret rfl dX8_seat_46 ?_
      refine ⟨?_, rfl, rfl, rfl, rfl⟩
      unfold aSeat
      first | rw [if_neg h5] | (rw [if_pos hx, tN_nI ha31]; simp_all)
    by_cases hv11_1 : what = 1
    · subst hv11_1
      refine wv_tableIn (off := 36) (tgt := 47) dX8_seat_11 (by decide) (by decide) (by decide) (by decide) ?_
      refine wv_aload_n dX8_seat_47 rfl ?_
      refine wv_getR fX8_75 dX8_seat_48 rfl (by first | assumption | rfl) (by first | exact hR _ _ _ rfl | assumption) ?_
      refine wv_iload_n dX8_seat_51 rfl ?_
      refine wv_ialdN dX8_seat_52 (by first | assumption | rfl) (by omega) (by decide) ?_
      refine wv_iret rfl dX8_seat_53 ?_
      refine ⟨?_, rfl, rfl, rfl, rfl⟩
      unfold aSeat
      first | rw [if_neg h5] | (rw [if_pos hx, tN_nI ha31]; simp_all)
    by_cases hv11_2 : what = 2
    · subst hv11_2
      refine wv_tableIn (off := 43) (tgt := 54) dX8_seat_11 (by decide) (by decide) (by decide) (by decide) ?_
      refine wv_aload_n dX8_seat_54 rfl ?_
      refine wv_getR fX8_30 dX8_seat_55 rfl (by first | assumption | rfl) (by first | exact hR _ _ _ rfl | assumption) ?_
      refine wv_iload_n dX8_seat_58 rfl ?_
      refine wv_zaldN dX8_seat_59 (by first | assumption | rfl) (by omega) (by decide) ?_
      refine wv_if_eq (tgt := 67) dX8_seat_60 (by decide) (fun h60 => ?_) (fun h60 => ?_)
      · rw [v3, bI_0] at h60
        refine wv_aload_n dX8_seat_67 rfl ?_
        refine wv_getR fX8_27 dX8_seat_68 rfl (by first | assumption | rfl) (by first | exact hR _ _ _ rfl | assumption) ?_
        refine wv_iload_n dX8_seat_71 rfl ?_
        refine wv_zaldN dX8_seat_72 (by first | assumption | rfl) (by omega) (by decide) ?_
        refine wv_if_eq (tgt := 80) dX8_seat_73 (by decide) (fun h73 => ?_) (fun h73 => ?_)
        · rw [v4, bI_0] at h73
          refine wv_iconst (v := 0) dX8_seat_80 (by decide) ?_
          refine wv_iret rfl dX8_seat_81 ?_
          refine ⟨?_, rfl, rfl, rfl, rfl⟩
          unfold aSeat
          first | rw [if_neg h5] | (rw [if_pos hx, tN_nI ha31]; simp_all)
        · rw [v4, bI_0] at h73
          refine wv_iconst (v := 1) dX8_seat_76 (by decide) ?_
          refine wv_goto (tgt := 81) dX8_seat_77 (by decide) ?_
          refine wv_iret rfl dX8_seat_81 ?_
          refine ⟨?_, rfl, rfl, rfl, rfl⟩
          unfold aSeat
          first | rw [if_neg h5] | (rw [if_pos hx, tN_nI ha31]; simp_all)
      · rw [v3, bI_0] at h60
        refine wv_iconst (v := 2) dX8_seat_63 (by decide) ?_
        refine wv_goto (tgt := 81) dX8_seat_64 (by decide) ?_
        refine wv_iret rfl dX8_seat_81 ?_
        refine ⟨?_, rfl, rfl, rfl, rfl⟩
        unfold aSeat
        first | rw [if_neg h5] | (rw [if_pos hx, tN_nI ha31]; simp_all)
    by_cases hv11_3 : what = 3
    · subst hv11_3
      refine wv_tableIn (off := 71) (tgt := 82) dX8_seat_11 (by decide) (by decide) (by decide) (by decide) ?_
      refine wv_aload_n dX8_seat_82 rfl ?_
      refine wv_getR fX8_33 dX8_seat_83 rfl (by first | assumption | rfl) (by first | exact hR _ _ _ rfl | assumption) ?_
      refine wv_iload_n dX8_seat_86 rfl ?_
      refine wv_zaldN dX8_seat_87 (by first | assumption | rfl) (by omega) (by decide) ?_
      refine wv_if_eq (tgt := 95) dX8_seat_88 (by decide) (fun h88 => ?_) (fun h88 => ?_)
      · rw [v5, bI_0] at h88
        refine wv_iconst (v := 0) dX8_seat_95 (by decide) ?_
        refine wv_iret rfl dX8_seat_96 ?_
        refine ⟨?_, rfl, rfl, rfl, rfl⟩
        unfold aSeat
        first | rw [if_neg h5] | (rw [if_pos hx, tN_nI ha31]; simp_all)
      · rw [v5, bI_0] at h88
        refine wv_iconst (v := 1) dX8_seat_91 (by decide) ?_
        refine wv_goto (tgt := 96) dX8_seat_92 (by decide) ?_
        refine wv_iret rfl dX8_seat_96 ?_
        refine ⟨?_, rfl, rfl, rfl, rfl⟩
        unfold aSeat
        first | rw [if_neg h5] | (rw [if_pos hx, tN_nI ha31]; simp_all)
    refine wv_tableOut (tgt := 97) dX8_seat_11 (by have q0 : (what).toInt ≠ 0 := wr_ne hv11_0; have q1 : (what).toInt ≠ 1 := wr_ne hv11_1; have q2 : (what).toInt ≠ 2 := wr_ne hv11_2; have q3 : (what).toInt ≠ 3 := wr_ne hv11_3; omega) (by decide) ?_
    refine wv_iconst (v := (-1)) dX8_seat_97 (by decide) ?_
    refine wv_iret rfl dX8_seat_98 ?_
    refine ⟨?_, rfl, rfl, rfl, rfl⟩
    unfold aSeat
    first | rw [if_neg h5] | (rw [if_pos hx, tN_nI ha31]; simp_all)
  · rw [hn, if10] at h5
    refine wv_iconst (v := (-1)) dX8_seat_8 (by decide) ?_
    refine wv_iret rfl dX8_seat_9 ?_
    refine ⟨?_, rfl, rfl, rfl, rfl⟩
    unfold aSeat
    first | rw [if_neg h5] | (rw [if_pos hx, tN_nI ha31]; simp_all)

set_option maxHeartbeats 4000000 in
set_option maxRecDepth 100000 in
theorem xW_way {l : Launch} {I : wr_TI} {L : wr_TL} {R : wr_TR} (hR : wr_RC R) (F : FS) (hF : mcF I F) (x : Int32) : wr_E l 0 mX8_way [.ref 55, .int x] SH I L R (some (.int (aWay F x))) I L R := by
  refine wv_pad 0 ?_
  show wr_V l 0 mX8_way 0 [some (.ref 55), some (.int x)] [] SH I L R 0 0 _
  refine wv_iload_n dX8_way_0 rfl ?_
  refine wv_if_lt (tgt := 9) dX8_way_1 (by decide) (fun h1 => ?_) (fun h1 => ?_)
  · refine wv_iconst (v := (-1)) dX8_way_9 (by decide) ?_
    refine wv_goto (tgt := 19) dX8_way_10 (by decide) ?_
    refine wv_iret rfl dX8_way_19 ?_
    refine ⟨?_, rfl, rfl, rfl, rfl⟩
    unfold aWay
    first | (have _ := ha; rw [if_pos hx, tN_nI (by omega), e]) | (rw [if_neg (by grind)])
  · refine wv_iload_n dX8_way_4 rfl ?_
    refine wv_iconst (v := 2) dX8_way_5 (by decide) ?_
    refine wv_icmp_le (tgt := 13) dX8_way_6 (by decide) (fun h6 => ?_) (fun h6 => ?_)
    · have hx : 0 ≤ x ∧ x < 3 := by grind
      obtain ⟨a, ha, rfl⟩ := ix_of (n := 3) hx (by omega)
      have e := hF.2.1 a ha
      refine wv_aload_n dX8_way_13 rfl ?_
      refine wv_getR fX8_87 dX8_way_14 rfl (by first | assumption | rfl) (by first | exact hR _ _ _ rfl | assumption) ?_
      refine wv_iload_n dX8_way_17 rfl ?_
      refine wv_ialdN dX8_way_18 (by first | assumption | rfl) ha (by decide) ?_
      refine wv_iret rfl dX8_way_19 ?_
      refine ⟨?_, rfl, rfl, rfl, rfl⟩
      unfold aWay
      first | (have _ := ha; rw [if_pos hx, tN_nI (by omega), e]) | (rw [if_neg (by grind)])
    · refine wv_iconst (v := (-1)) dX8_way_9 (by decide) ?_
      refine wv_goto (tgt := 19) dX8_way_10 (by decide) ?_
      refine wv_iret rfl dX8_way_19 ?_
      refine ⟨?_, rfl, rfl, rfl, rfl⟩
      unfold aWay
      first | (have _ := ha; rw [if_pos hx, tN_nI (by omega), e]) | (rw [if_neg (by grind)])

abbrev frB (I I' : wr_TI) : Prop := frM (fun a => 74 ≤ a ∧ a ≤ 82) (fun k => 57 ≤ k ∧ k ≤ 61) I I'
theorem frB_rf {I : wr_TI} : frB I I := frM_rf
theorem frB_tr {I I1 I2 : wr_TI} (h1 : frB I I1) (h2 : frB I1 I2) : frB I I2 := frM_tr h1 h2
theorem frB_S {I I' : wr_TI} (h : frS I I') : frB I I' := ⟨fun a h1 h2 => h.1 a h1 (by omega), fun k hk => h.2 k (by omega)⟩
theorem frB_g {I I' : wr_TI} {g : RG} (h : frB I I') (hg : mgV I g) : mgV I' g := mgV_fr hg (fun k hk => h.2 k (by omega)) (fun a ha => h.1 a (by omega) (by omega))
/-- what is put away -/
def mOld (I : wr_TI) (F : FS) : Prop := (∀ s, s < 40 → I 78 s = F.1.1 s) ∧ (∀ s, s < 40 → I 79 s = F.1.2.1 s) ∧ (∀ k, k < 3 → I 81 k = F.2.1 k) ∧ I 55 60 = F.1.2.2.1 ∧ I 55 61 = F.1.2.2.2 ∧ I 55 59 = F.2.2
theorem mOld_S {I I' : wr_TI} {F : FS} (h : mOld I F) (hf : frS I I') (hw : I' 55 59 = I 55 59) : mOld I' F := by
  unfold mOld at h ⊢
  rw [hf.1 78 (by omega) (by omega), hf.1 79 (by omega) (by omega), hf.1 81 (by omega) (by omega), hf.2 60 (by omega), hf.2 61 (by omega), hw]
  exact h
def puI (I : wr_TI) (i : Nat) : wr_TI := fun a b => if a = 78 ∧ b < i then I 75 b else if a = 79 ∧ b < i then I 76 b else I a b
def puI2 (I : wr_TI) (i : Nat) : wr_TI := fun a b => if a = 81 ∧ b < i then I 80 b else puI I 40 a b
def bgI (I : wr_TI) (i : Nat) : wr_TI := fun a b => if a = 75 ∧ b < i then I 78 b else if a = 76 ∧ b < i then I 79 b else if a = 82 ∧ b < i then 0 else I a b
def bgI2 (I : wr_TI) (i : Nat) : wr_TI := fun a b => if a = 80 ∧ b < i then I 81 b else bgI I 40 a b
def fsI (I : wr_TI) (i : Nat) : wr_TI := fun a b => if a = 75 ∧ b < i then (if I 61 b = 0 then 0 else 40) else if a = 76 ∧ b < i then 0 else I a b
def fsI2 (I : wr_TI) (i : Nat) : wr_TI := fun a b => if a = 80 ∧ b < i then 0 else fsI I 40 a b
set_option maxHeartbeats 4000000 in
set_option maxRecDepth 100000 in
theorem x_put {l : Launch} {I : wr_TI} {L : wr_TL} {R : wr_TR} (hR : wr_RC R) : wr_P l 0 mX8_put [.ref 55] SH I L R (fun v s' I' L' R' => v = none ∧ s' = SH ∧ L' = L ∧ R' = R ∧ (∀ F, mcF I F → mOld I' F) ∧ frB I I' ∧ I' 75 = I 75 ∧ I' 76 = I 76 ∧ I' 80 = I 80 ∧ I' 82 = I 82 ∧ ∀ k, k ≠ 60 → k ≠ 61 → I' 55 k = I 55 k) := by
  have lp2 : ∀ (k i : Nat), i + k = 3 → wr_V l 0 mX8_put 40 [some (.ref 55), some (.int (nI i))] [] SH (puI2 I i) L R 0 0 (fun v s' I' L' R' => v = none ∧ s' = SH ∧ L' = L ∧ R' = R ∧ (∀ F, mcF I F → mOld I' F) ∧ frB I I' ∧ I' 75 = I 75 ∧ I' 76 = I 76 ∧ I' 80 = I 80 ∧ I' 82 = I 82 ∧ ∀ k, k ≠ 60 → k ≠ 61 → I' 55 k = I 55 k) := by
    intro k
    induction k with
    | zero =>
      intro i hi
      obtain rfl : i = 3 := by omega
      refine wv_iload_n dX8_put_40 rfl ?_
      refine wv_iconst (v := 3) dX8_put_41 (by decide) ?_
      refine wv_icmp_ge (tgt := 63) dX8_put_42 (by decide) (fun h42 => ?_) (fun h42 => absurd (nI_le (a := 3) (by omega) (by omega)) h42)
      refine wv_aload_n dX8_put_63 rfl ?_
      refine wv_aload_n dX8_put_64 rfl ?_
      refine wv_getI fX8_381 dX8_put_65 rfl (by first | assumption | rfl) ?_
      refine wv_putI fX8_387 dX8_put_68 rfl rfl rfl rfl (by first | assumption | rfl) ?_
      refine wv_aload_n dX8_put_71 rfl ?_
      refine wv_aload_n dX8_put_72 rfl ?_
      refine wv_getI fX8_384 dX8_put_73 rfl (by first | assumption | rfl) ?_
      refine wv_putI fX8_390 dX8_put_76 rfl rfl rfl rfl (by first | assumption | rfl) ?_
      refine wv_ret (x := ()) rfl dX8_put_79 ?_
      refine ⟨rfl, rfl, rfl, rfl, fun F hF => ⟨fun s hs => ?_, fun s hs => ?_, fun k hk => ?_, ?_, ?_, ?_⟩, ⟨fun a b1 b2 => ?_, fun k hk => ?_⟩, ?_, ?_, ?_, ?_, fun k b1 b2 => ?_⟩
      · have := hF.1.1 s hs
        simp [wr_uI, puI2, puI, hs, this]
      · have := hF.1.2.1 s hs
        simp [wr_uI, puI2, puI, hs, this]
      · have := hF.2.1 k hk
        simp [wr_uI, puI2, puI, hk, this]
      · have := hF.1.2.2.1
        simp [wr_uI, puI2, puI, this]
      · have := hF.1.2.2.2
        simp [wr_uI, puI2, puI, this]
      · have := hF.2.2
        simp [wr_uI, puI2, puI, this]
      · funext b
        have h1 : ¬ a = 78 := by omega
        have h2 : ¬ a = 79 := by omega
        have h3 : ¬ a = 81 := by omega
        simp [wr_uI, puI2, puI, b1, h1, h2, h3]
      · have h1 : ¬ k = 60 := by omega
        have h2 : ¬ k = 61 := by omega
        simp [wr_uI, puI2, puI, h1, h2]
      · funext b; simp [wr_uI, puI2, puI]
      · funext b; simp [wr_uI, puI2, puI]
      · funext b; simp [wr_uI, puI2, puI]
      · funext b; simp [wr_uI, puI2, puI]
      · simp [wr_uI, puI2, puI, b1, b2]
    | succ k ih =>
      intro i hi
      refine wv_iload_n dX8_put_40 rfl ?_
      refine wv_iconst (v := 3) dX8_put_41 (by decide) ?_
      refine wv_icmp_ge (tgt := 63) dX8_put_42 (by decide) (fun h42 => absurd h42 (nI_ge (b := 3) (by omega) (by omega))) (fun h42 => ?_)
      refine wv_aload_n dX8_put_45 rfl ?_
      refine wv_getR fX8_90 dX8_put_46 rfl (by first | assumption | rfl) (by first | exact hR _ _ _ rfl | assumption) ?_
      refine wv_iload_n dX8_put_49 rfl ?_
      refine wv_aload_n dX8_put_50 rfl ?_
      refine wv_getR fX8_87 dX8_put_51 rfl (by first | assumption | rfl) (by first | exact hR _ _ _ rfl | assumption) ?_
      refine wv_iload_n dX8_put_54 rfl ?_
      refine wv_ialdN dX8_put_55 (by first | assumption | rfl) (by omega) (by decide) ?_
      refine wv_iastN dX8_put_56 (by first | assumption | rfl) (by omega) (by decide) ?_
      refine wv_iinc (v := nI (i + 1)) dX8_put_57 rfl (nI_1 (i)) (by decide) ?_
      refine wv_goto (tgt := 40) dX8_put_60 (by decide) ?_
      have e : ∀ a b, wr_uI (puI2 I i) 81 i (puI2 I i 80 i) a b = puI2 I (i + 1) a b := fun a b => by
        simp only [puI2, wr_uI, puI]
        grind
      exact wv_le (by simp [wr_leq, wr_s1, wr_s2, wr_wide]) (wv_I e (ih (i + 1) (by omega)))
  have lp : ∀ (k i : Nat), i + k = 40 → wr_V l 0 mX8_put 2 [some (.ref 55), some (.int (nI i))] [] SH (puI I i) L R 0 0 (fun v s' I' L' R' => v = none ∧ s' = SH ∧ L' = L ∧ R' = R ∧ (∀ F, mcF I F → mOld I' F) ∧ frB I I' ∧ I' 75 = I 75 ∧ I' 76 = I 76 ∧ I' 80 = I 80 ∧ I' 82 = I 82 ∧ ∀ k, k ≠ 60 → k ≠ 61 → I' 55 k = I 55 k) := by
    intro k
    induction k with
    | zero =>
      intro i hi
      obtain rfl : i = 40 := by omega
      refine wv_iload_n dX8_put_2 rfl ?_
      refine wv_bipush (v := 40) dX8_put_3 (by decide) ?_
      refine wv_icmp_ge (tgt := 38) dX8_put_5 (by decide) (fun h5 => ?_) (fun h5 => absurd (nI_le (a := 40) (by omega) (by omega)) h5)
      refine wv_iconst (v := nI 0) dX8_put_38 rfl ?_
      refine wv_istore_k (i := 1) dX8_put_39 rfl (by decide) ?_
      have e : ∀ a b, puI I 40 a b = puI2 I 0 a b := fun a b => by simp [puI2]
      exact wv_le (by simp [wr_leq, wr_s1, wr_s2, wr_wide]) (wv_I e (lp2 3 0 (by omega)))
    | succ k ih =>
      intro i hi
      refine wv_iload_n dX8_put_2 rfl ?_
      refine wv_bipush (v := 40) dX8_put_3 (by decide) ?_
      refine wv_icmp_ge (tgt := 38) dX8_put_5 (by decide) (fun h5 => absurd h5 (nI_ge (b := 40) (by omega) (by omega))) (fun h5 => ?_)
      refine wv_aload_n dX8_put_8 rfl ?_
      refine wv_getR fX8_81 dX8_put_9 rfl (by first | assumption | rfl) (by first | exact hR _ _ _ rfl | assumption) ?_
      refine wv_iload_n dX8_put_12 rfl ?_
      refine wv_aload_n dX8_put_13 rfl ?_
      refine wv_getR fX8_72 dX8_put_14 rfl (by first | assumption | rfl) (by first | exact hR _ _ _ rfl | assumption) ?_
      refine wv_iload_n dX8_put_17 rfl ?_
      refine wv_ialdN dX8_put_18 (by first | assumption | rfl) (by omega) (by decide) ?_
      refine wv_iastN dX8_put_19 (by first | assumption | rfl) (by omega) (by decide) ?_
      refine wv_aload_n dX8_put_20 rfl ?_
      refine wv_getR fX8_84 dX8_put_21 rfl (by first | assumption | rfl) (by first | exact hR _ _ _ rfl | assumption) ?_
      refine wv_iload_n dX8_put_24 rfl ?_
      refine wv_aload_n dX8_put_25 rfl ?_
      refine wv_getR fX8_75 dX8_put_26 rfl (by first | assumption | rfl) (by first | exact hR _ _ _ rfl | assumption) ?_
      refine wv_iload_n dX8_put_29 rfl ?_
      refine wv_ialdN dX8_put_30 (by first | assumption | rfl) (by omega) (by decide) ?_
      refine wv_iastN dX8_put_31 (by first | assumption | rfl) (by omega) (by decide) ?_
      refine wv_iinc (v := nI (i + 1)) dX8_put_32 rfl (nI_1 (i)) (by decide) ?_
      refine wv_goto (tgt := 2) dX8_put_35 (by decide) ?_
      have e : ∀ a b, wr_uI (wr_uI (puI I i) 78 i (puI I i 75 i)) 79 i (wr_uI (puI I i) 78 i (puI I i 75 i) 76 i) a b = puI I (i + 1) a b := fun a b => by
        simp only [puI, wr_uI, vp_nar]
        grind
      exact wv_le (by simp [wr_leq, wr_s1, wr_s2, wr_wide]) (wv_I e (ih (i + 1) (by omega)))
  refine wv_pad 1 ?_
  show wr_V l 0 mX8_put 0 [some (.ref 55), none] [] SH I L R 0 0 _
  refine wv_iconst (v := nI 0) dX8_put_0 rfl ?_
  refine wv_istore_k (i := 1) dX8_put_1 rfl (by decide) ?_
  have e : ∀ a b, I a b = puI I 0 a b := fun a b => by simp [puI]
  exact wv_le (by simp [wr_leq, wr_s1, wr_s2, wr_wide]) (wv_I e (lp 40 0 (by omega)))

set_option maxHeartbeats 4000000 in
set_option maxRecDepth 100000 in
theorem x_bring {l : Launch} {I : wr_TI} {L : wr_TL} {R : wr_TR} (hR : wr_RC R) : wr_P l 0 mX8_bring [.ref 55] SH I L R (fun v s' I' L' R' => v = none ∧ s' = SH ∧ L' = L ∧ R' = R ∧ (∀ F, mOld I F → mcF I' F) ∧ frB I I' ∧ mZ I' ∧ ∀ k, k ≠ 57 → k ≠ 58 → I' 55 k = I 55 k) := by
  have lp2 : ∀ (k i : Nat), i + k = 3 → wr_V l 0 mX8_bring 47 [some (.ref 55), some (.int (nI i))] [] SH (bgI2 I i) L R 0 0 (fun v s' I' L' R' => v = none ∧ s' = SH ∧ L' = L ∧ R' = R ∧ (∀ F, mOld I F → mcF I' F) ∧ frB I I' ∧ mZ I' ∧ ∀ k, k ≠ 57 → k ≠ 58 → I' 55 k = I 55 k) := by
    intro k
    induction k with
    | zero =>
      intro i hi
      obtain rfl : i = 3 := by omega
      refine wv_iload_n dX8_bring_47 rfl ?_
      refine wv_iconst (v := 3) dX8_bring_48 (by decide) ?_
      refine wv_icmp_ge (tgt := 70) dX8_bring_49 (by decide) (fun h49 => ?_) (fun h49 => absurd (nI_le (a := 3) (by omega) (by omega)) h49)
      refine wv_aload_n dX8_bring_70 rfl ?_
      refine wv_aload_n dX8_bring_71 rfl ?_
      refine wv_getI fX8_387 dX8_bring_72 rfl (by first | assumption | rfl) ?_
      refine wv_putI fX8_381 dX8_bring_75 rfl rfl rfl rfl (by first | assumption | rfl) ?_
      refine wv_aload_n dX8_bring_78 rfl ?_
      refine wv_aload_n dX8_bring_79 rfl ?_
      refine wv_getI fX8_390 dX8_bring_80 rfl (by first | assumption | rfl) ?_
      refine wv_putI fX8_384 dX8_bring_83 rfl rfl rfl rfl (by first | assumption | rfl) ?_
      refine wv_ret (x := ()) rfl dX8_bring_86 ?_
      refine ⟨rfl, rfl, rfl, rfl, fun F hF => ⟨⟨fun s hs => ?_, fun s hs => ?_, ?_, ?_⟩, fun k hk => ?_, ?_⟩, ⟨fun a b1 b2 => ?_, fun k hk => ?_⟩, fun s hs => ?_, fun k b1 b2 => ?_⟩
      · have := hF.1 s hs
        simp [wr_uI, bgI2, bgI, hs, this]
      · have := hF.2.1 s hs
        simp [wr_uI, bgI2, bgI, hs, this]
      · have := hF.2.2.2.1
        simp [wr_uI, bgI2, bgI, this]
      · have := hF.2.2.2.2.1
        simp [wr_uI, bgI2, bgI, this]
      · have := hF.2.2.1 k hk
        simp [wr_uI, bgI2, bgI, hk, this]
      · have := hF.2.2.2.2.2
        simp [wr_uI, bgI2, bgI, this]
      · funext b
        have h1 : ¬ a = 75 := by omega
        have h2 : ¬ a = 76 := by omega
        have h3 : ¬ a = 80 := by omega
        have h4 : ¬ a = 82 := by omega
        simp [wr_uI, bgI2, bgI, b1, h1, h2, h3, h4]
      · have h1 : ¬ k = 57 := by omega
        have h2 : ¬ k = 58 := by omega
        simp [wr_uI, bgI2, bgI, h1, h2]
      · simp [wr_uI, bgI2, bgI, hs]
      · simp [wr_uI, bgI2, bgI, b1, b2]
    | succ k ih =>
      intro i hi
      refine wv_iload_n dX8_bring_47 rfl ?_
      refine wv_iconst (v := 3) dX8_bring_48 (by decide) ?_
      refine wv_icmp_ge (tgt := 70) dX8_bring_49 (by decide) (fun h49 => absurd h49 (nI_ge (b := 3) (by omega) (by omega))) (fun h49 => ?_)
      refine wv_aload_n dX8_bring_52 rfl ?_
      refine wv_getR fX8_87 dX8_bring_53 rfl (by first | assumption | rfl) (by first | exact hR _ _ _ rfl | assumption) ?_
      refine wv_iload_n dX8_bring_56 rfl ?_
      refine wv_aload_n dX8_bring_57 rfl ?_
      refine wv_getR fX8_90 dX8_bring_58 rfl (by first | assumption | rfl) (by first | exact hR _ _ _ rfl | assumption) ?_
      refine wv_iload_n dX8_bring_61 rfl ?_
      refine wv_ialdN dX8_bring_62 (by first | assumption | rfl) (by omega) (by decide) ?_
      refine wv_iastN dX8_bring_63 (by first | assumption | rfl) (by omega) (by decide) ?_
      refine wv_iinc (v := nI (i + 1)) dX8_bring_64 rfl (nI_1 (i)) (by decide) ?_
      refine wv_goto (tgt := 47) dX8_bring_67 (by decide) ?_
      have e : ∀ a b, wr_uI (bgI2 I i) 80 i (bgI2 I i 81 i) a b = bgI2 I (i + 1) a b := fun a b => by
        simp only [bgI2, wr_uI, bgI]
        grind
      exact wv_le (by simp [wr_leq, wr_s1, wr_s2, wr_wide]) (wv_I e (ih (i + 1) (by omega)))
  have lp : ∀ (k i : Nat), i + k = 40 → wr_V l 0 mX8_bring 2 [some (.ref 55), some (.int (nI i))] [] SH (bgI I i) L R 0 0 (fun v s' I' L' R' => v = none ∧ s' = SH ∧ L' = L ∧ R' = R ∧ (∀ F, mOld I F → mcF I' F) ∧ frB I I' ∧ mZ I' ∧ ∀ k, k ≠ 57 → k ≠ 58 → I' 55 k = I 55 k) := by
    intro k
    induction k with
    | zero =>
      intro i hi
      obtain rfl : i = 40 := by omega
      refine wv_iload_n dX8_bring_2 rfl ?_
      refine wv_bipush (v := 40) dX8_bring_3 (by decide) ?_
      refine wv_icmp_ge (tgt := 45) dX8_bring_5 (by decide) (fun h5 => ?_) (fun h5 => absurd (nI_le (a := 40) (by omega) (by omega)) h5)
      refine wv_iconst (v := nI 0) dX8_bring_45 rfl ?_
      refine wv_istore_k (i := 1) dX8_bring_46 rfl (by decide) ?_
      have e : ∀ a b, bgI I 40 a b = bgI2 I 0 a b := fun a b => by simp [bgI2]
      exact wv_le (by simp [wr_leq, wr_s1, wr_s2, wr_wide]) (wv_I e (lp2 3 0 (by omega)))
    | succ k ih =>
      intro i hi
      refine wv_iload_n dX8_bring_2 rfl ?_
      refine wv_bipush (v := 40) dX8_bring_3 (by decide) ?_
      refine wv_icmp_ge (tgt := 45) dX8_bring_5 (by decide) (fun h5 => absurd h5 (nI_ge (b := 40) (by omega) (by omega))) (fun h5 => ?_)
      refine wv_aload_n dX8_bring_8 rfl ?_
      refine wv_getR fX8_72 dX8_bring_9 rfl (by first | assumption | rfl) (by first | exact hR _ _ _ rfl | assumption) ?_
      refine wv_iload_n dX8_bring_12 rfl ?_
      refine wv_aload_n dX8_bring_13 rfl ?_
      refine wv_getR fX8_81 dX8_bring_14 rfl (by first | assumption | rfl) (by first | exact hR _ _ _ rfl | assumption) ?_
      refine wv_iload_n dX8_bring_17 rfl ?_
      refine wv_ialdN dX8_bring_18 (by first | assumption | rfl) (by omega) (by decide) ?_
      refine wv_iastN dX8_bring_19 (by first | assumption | rfl) (by omega) (by decide) ?_
      refine wv_aload_n dX8_bring_20 rfl ?_
      refine wv_getR fX8_75 dX8_bring_21 rfl (by first | assumption | rfl) (by first | exact hR _ _ _ rfl | assumption) ?_
      refine wv_iload_n dX8_bring_24 rfl ?_
      refine wv_aload_n dX8_bring_25 rfl ?_
      refine wv_getR fX8_84 dX8_bring_26 rfl (by first | assumption | rfl) (by first | exact hR _ _ _ rfl | assumption) ?_
      refine wv_iload_n dX8_bring_29 rfl ?_
      refine wv_ialdN dX8_bring_30 (by first | assumption | rfl) (by omega) (by decide) ?_
      refine wv_iastN dX8_bring_31 (by first | assumption | rfl) (by omega) (by decide) ?_
      refine wv_aload_n dX8_bring_32 rfl ?_
      refine wv_getR fX8_93 dX8_bring_33 rfl (by first | assumption | rfl) (by first | exact hR _ _ _ rfl | assumption) ?_
      refine wv_iload_n dX8_bring_36 rfl ?_
      refine wv_iconst (v := 0) dX8_bring_37 (by decide) ?_
      refine wv_zastN dX8_bring_38 (by first | assumption | rfl) (by omega) (by decide) ?_
      refine wv_iinc (v := nI (i + 1)) dX8_bring_39 rfl (nI_1 (i)) (by decide) ?_
      refine wv_goto (tgt := 2) dX8_bring_42 (by decide) ?_
      have e : ∀ a b, wr_uI (wr_uI (wr_uI (bgI I i) 75 i (bgI I i 78 i)) 76 i (wr_uI (bgI I i) 75 i (bgI I i 78 i) 79 i)) 82 i 0 a b = bgI I (i + 1) a b := fun a b => by
        simp only [bgI, wr_uI, vp_nar]
        grind
      exact wv_le (by simp [wr_leq, wr_s1, wr_s2, wr_wide]) (wv_I e (ih (i + 1) (by omega)))
  refine wv_pad 1 ?_
  show wr_V l 0 mX8_bring 0 [some (.ref 55), none] [] SH I L R 0 0 _
  refine wv_iconst (v := nI 0) dX8_bring_0 rfl ?_
  refine wv_istore_k (i := 1) dX8_bring_1 rfl (by decide) ?_
  have e : ∀ a b, I a b = bgI I 0 a b := fun a b => by simp [bgI]
  exact wv_le (by simp [wr_leq, wr_s1, wr_s2, wr_wide]) (wv_I e (lp 40 0 (by omega)))

set_option maxHeartbeats 4000000 in
set_option maxRecDepth 100000 in
theorem x_freshen {l : Launch} {I : wr_TI} {L : wr_TL} {R : wr_TR} (hR : wr_RC R) (g : RG) (hgp : ∀ s, s < 40 → I 61 s = bI (gG g s)) : wr_P l 0 mX8_freshen [.ref 55] SH I L R (fun v s' I' L' R' => v = none ∧ s' = SH ∧ L' = L ∧ R' = R ∧ mcV I' (S0 g) ∧ (∀ k, k < 3 → I' 80 k = 0) ∧ frB I I' ∧ I' 78 = I 78 ∧ I' 79 = I 79 ∧ I' 81 = I 81 ∧ I' 82 = I 82 ∧ ∀ k, k ≠ 57 → k ≠ 58 → I' 55 k = I 55 k) := by
  have lp2 : ∀ (k i : Nat), i + k = 3 → wr_V l 0 mX8_freshen 44 [some (.ref 55), some (.int (nI i))] [] SH (fsI2 I i) L R 0 0 (fun v s' I' L' R' => v = none ∧ s' = SH ∧ L' = L ∧ R' = R ∧ mcV I' (S0 g) ∧ (∀ k, k < 3 → I' 80 k = 0) ∧ frB I I' ∧ I' 78 = I 78 ∧ I' 79 = I 79 ∧ I' 81 = I 81 ∧ I' 82 = I 82 ∧ ∀ k, k ≠ 57 → k ≠ 58 → I' 55 k = I 55 k) := by
    intro k
    induction k with
    | zero =>
      intro i hi
      obtain rfl : i = 3 := by omega
      refine wv_iload_n dX8_freshen_44 rfl ?_
      refine wv_iconst (v := 3) dX8_freshen_45 (by decide) ?_
      refine wv_icmp_ge (tgt := 62) dX8_freshen_46 (by decide) (fun h46 => ?_) (fun h46 => absurd (nI_le (a := 3) (by omega) (by omega)) h46)
      refine wv_aload_n dX8_freshen_62 rfl ?_
      refine wv_iconst (v := 0) dX8_freshen_63 (by decide) ?_
      refine wv_putI fX8_381 dX8_freshen_64 rfl rfl rfl rfl (by first | assumption | rfl) ?_
      refine wv_aload_n dX8_freshen_67 rfl ?_
      refine wv_iconst (v := 0) dX8_freshen_68 (by decide) ?_
      refine wv_putI fX8_384 dX8_freshen_69 rfl rfl rfl rfl (by first | assumption | rfl) ?_
      refine wv_ret (x := ()) rfl dX8_freshen_72 ?_
      refine ⟨rfl, rfl, rfl, rfl, ⟨fun s hs => ?_, fun s hs => ?_, ?_, ?_⟩, fun k hk => ?_, ⟨fun a b1 b2 => ?_, fun k hk => ?_⟩, ?_, ?_, ?_, ?_, fun k b1 b2 => ?_⟩
      · have := hgp s hs
        simp only [wr_uI, fsI2, fsI, S0, this]
        cases gG g s <;> simp [bI, hs]
      · simp [wr_uI, fsI2, fsI, hs, S0]
      · simp [wr_uI, fsI2, fsI, S0]
      · simp [wr_uI, fsI2, fsI, S0]
      · simp [wr_uI, fsI2, fsI, hk]
      · funext b
        have h1 : ¬ a = 75 := by omega
        have h2 : ¬ a = 76 := by omega
        have h3 : ¬ a = 80 := by omega
        simp [wr_uI, fsI2, fsI, b1, h1, h2, h3]
      · have h1 : ¬ k = 57 := by omega
        have h2 : ¬ k = 58 := by omega
        simp [wr_uI, fsI2, fsI, h1, h2]
      · funext b; simp [wr_uI, fsI2, fsI]
      · funext b; simp [wr_uI, fsI2, fsI]
      · funext b; simp [wr_uI, fsI2, fsI]
      · funext b; simp [wr_uI, fsI2, fsI]
      · simp [wr_uI, fsI2, fsI, b1, b2]
    | succ k ih =>
      intro i hi
      refine wv_iload_n dX8_freshen_44 rfl ?_
      refine wv_iconst (v := 3) dX8_freshen_45 (by decide) ?_
      refine wv_icmp_ge (tgt := 62) dX8_freshen_46 (by decide) (fun h46 => absurd h46 (nI_ge (b := 3) (by omega) (by omega))) (fun h46 => ?_)
      refine wv_aload_n dX8_freshen_49 rfl ?_
      refine wv_getR fX8_87 dX8_freshen_50 rfl (by first | assumption | rfl) (by first | exact hR _ _ _ rfl | assumption) ?_
      refine wv_iload_n dX8_freshen_53 rfl ?_
      refine wv_iconst (v := 0) dX8_freshen_54 (by decide) ?_
      refine wv_iastN dX8_freshen_55 (by first | assumption | rfl) (by omega) (by decide) ?_
      refine wv_iinc (v := nI (i + 1)) dX8_freshen_56 rfl (nI_1 (i)) (by decide) ?_
      refine wv_goto (tgt := 44) dX8_freshen_59 (by decide) ?_
      have e : ∀ a b, wr_uI (fsI2 I i) 80 i 0 a b = fsI2 I (i + 1) a b := fun a b => by
        simp only [fsI2, wr_uI, fsI]
        grind
      exact wv_le (by simp [wr_leq, wr_s1, wr_s2, wr_wide]) (wv_I e (ih (i + 1) (by omega)))
  have lp : ∀ (k i : Nat), i + k = 40 → wr_V l 0 mX8_freshen 2 [some (.ref 55), some (.int (nI i))] [] SH (fsI I i) L R 0 0 (fun v s' I' L' R' => v = none ∧ s' = SH ∧ L' = L ∧ R' = R ∧ mcV I' (S0 g) ∧ (∀ k, k < 3 → I' 80 k = 0) ∧ frB I I' ∧ I' 78 = I 78 ∧ I' 79 = I 79 ∧ I' 81 = I 81 ∧ I' 82 = I 82 ∧ ∀ k, k ≠ 57 → k ≠ 58 → I' 55 k = I 55 k) := by
    intro k
    induction k with
    | zero =>
      intro i hi
      obtain rfl : i = 40 := by omega
      refine wv_iload_n dX8_freshen_2 rfl ?_
      refine wv_bipush (v := 40) dX8_freshen_3 (by decide) ?_
      refine wv_icmp_ge (tgt := 42) dX8_freshen_5 (by decide) (fun h5 => ?_) (fun h5 => absurd (nI_le (a := 40) (by omega) (by omega)) h5)
      refine wv_iconst (v := nI 0) dX8_freshen_42 rfl ?_
      refine wv_istore_k (i := 1) dX8_freshen_43 rfl (by decide) ?_
      have e : ∀ a b, fsI I 40 a b = fsI2 I 0 a b := fun a b => by simp [fsI2]
      exact wv_le (by simp [wr_leq, wr_s1, wr_s2, wr_wide]) (wv_I e (lp2 3 0 (by omega)))
    | succ k ih =>
      intro i hi
      refine wv_iload_n dX8_freshen_2 rfl ?_
      refine wv_bipush (v := 40) dX8_freshen_3 (by decide) ?_
      refine wv_icmp_ge (tgt := 42) dX8_freshen_5 (by decide) (fun h5 => absurd h5 (nI_ge (b := 40) (by omega) (by omega))) (fun h5 => ?_)
      refine wv_aload_n dX8_freshen_8 rfl ?_
      refine wv_getR fX8_72 dX8_freshen_9 rfl (by first | assumption | rfl) (by first | exact hR _ _ _ rfl | assumption) ?_
      refine wv_iload_n dX8_freshen_12 rfl ?_
      refine wv_aload_n dX8_freshen_13 rfl ?_
      refine wv_getR fX8_30 dX8_freshen_14 rfl (by first | assumption | rfl) (by first | exact hR _ _ _ rfl | assumption) ?_
      refine wv_iload_n dX8_freshen_17 rfl ?_
      refine wv_zaldN dX8_freshen_18 (by first | assumption | rfl) (by omega) (by decide) ?_
      refine wv_if_eq (tgt := 27) dX8_freshen_19 (by decide) (fun h19 => ?_) (fun h19 => ?_)
      · rw [show fsI I i 61 i = I 61 i from by simp [fsI]] at h19
        have eg : (if I 61 i = 0 then 0 else 40) = (0 : Int32) := if_pos h19
        refine wv_iconst (v := 0) dX8_freshen_27 (by decide) ?_
        refine wv_iastN dX8_freshen_28 (by first | assumption | rfl) (by omega) (by decide) ?_
        refine wv_aload_n dX8_freshen_29 rfl ?_
        refine wv_getR fX8_75 dX8_freshen_30 rfl (by first | assumption | rfl) (by first | exact hR _ _ _ rfl | assumption) ?_
        refine wv_iload_n dX8_freshen_33 rfl ?_
        refine wv_iconst (v := 0) dX8_freshen_34 (by decide) ?_
        refine wv_iastN dX8_freshen_35 (by first | assumption | rfl) (by omega) (by decide) ?_
        refine wv_iinc (v := nI (i + 1)) dX8_freshen_36 rfl (nI_1 (i)) (by decide) ?_
        refine wv_goto (tgt := 2) dX8_freshen_39 (by decide) ?_
        have e : ∀ a b, wr_uI (wr_uI (fsI I i) 75 i (if I 61 i = 0 then 0 else 40)) 76 i 0 a b = fsI I (i + 1) a b := fun a b => by
          simp only [fsI, wr_uI, vp_nar]
          grind
        rw [eg] at e
        exact wv_le (by simp [wr_leq, wr_s1, wr_s2, wr_wide]) (wv_I e (ih (i + 1) (by omega)))
      · rw [show fsI I i 61 i = I 61 i from by simp [fsI]] at h19
        have eg : (if I 61 i = 0 then 0 else 40) = (40 : Int32) := if_neg h19
        refine wv_bipush (v := 40) dX8_freshen_22 (by decide) ?_
        refine wv_goto (tgt := 28) dX8_freshen_24 (by decide) ?_
        refine wv_iastN dX8_freshen_28 (by first | assumption | rfl) (by omega) (by decide) ?_
        refine wv_aload_n dX8_freshen_29 rfl ?_
        refine wv_getR fX8_75 dX8_freshen_30 rfl (by first | assumption | rfl) (by first | exact hR _ _ _ rfl | assumption) ?_
        refine wv_iload_n dX8_freshen_33 rfl ?_
        refine wv_iconst (v := 0) dX8_freshen_34 (by decide) ?_
        refine wv_iastN dX8_freshen_35 (by first | assumption | rfl) (by omega) (by decide) ?_
        refine wv_iinc (v := nI (i + 1)) dX8_freshen_36 rfl (nI_1 (i)) (by decide) ?_
        refine wv_goto (tgt := 2) dX8_freshen_39 (by decide) ?_
        have e : ∀ a b, wr_uI (wr_uI (fsI I i) 75 i (if I 61 i = 0 then 0 else 40)) 76 i 0 a b = fsI I (i + 1) a b := fun a b => by
          simp only [fsI, wr_uI, vp_nar]
          grind
        rw [eg] at e
        exact wv_le (by simp [wr_leq, wr_s1, wr_s2, wr_wide]) (wv_I e (ih (i + 1) (by omega)))
  refine wv_pad 1 ?_
  show wr_V l 0 mX8_freshen 0 [some (.ref 55), none] [] SH I L R 0 0 _
  refine wv_iconst (v := nI 0) dX8_freshen_0 rfl ?_
  refine wv_istore_k (i := 1) dX8_freshen_1 rfl (by decide) ?_
  have e : ∀ a b, I a b = fsI I 0 a b := fun a b => by simp [fsI]
  exact wv_le (by simp [wr_leq, wr_s1, wr_s2, wr_wide]) (wv_I e (lp 40 0 (by omega)))

