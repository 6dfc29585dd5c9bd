/-! the model: till, dies; who starts, how long it lives -/
theorem ups_of {J : wr_TI} {g : RG} {T : SS} (k40 : gN g ≤ 40) (h : mcV J T) : cn (fun s => isU (J 75 s)) (gN g) = upn g T := cn_congr fun s hs => by rw [h.1 s (by omega)]
theorem frB_z {I I' : wr_TI} (h : I' 82 = I 82) (hz : mZ I) : mZ I' := fun s hs => by rw [h]; exact hz s hs
theorem mcF_put {I I' : wr_TI} {F : FS} (h : mcF I F) (h1 : I' 75 = I 75) (h2 : I' 76 = I 76) (h3 : I' 80 = I 80) (h4 : ∀ k, k ≠ 60 → k ≠ 61 → I' 55 k = I 55 k) : mcF I' F := ⟨mcV_fr h.1 h1 h2 (h4 _ (by omega) (by omega)) (h4 _ (by omega) (by omega)), by rw [h3]; exact h.2.1, by rw [h4 _ (by omega) (by omega)]; exact h.2.2⟩
set_option maxHeartbeats 4000000 in
set_option maxRecDepth 100000 in
theorem xW_dies {l : Launch} {I : wr_TI} {L : wr_TL} {R : wr_TR} (hR : wr_RC R) (g : RG) (F : FS) (ok : gOK g) (hg : mgV I g) (hF : mcF I F) (hz : mZ I) : wr_P l 5 mX8_dies [.ref 55] SH I L R (fun v s' I' L' R' => v = some (.int (aDies g F.1)) ∧ s' = SH ∧ L' = L ∧ R' = R ∧ mcF I' F ∧ mZ I' ∧ frB I I') := by
  obtain ⟨k6, k40, -⟩ := id ok
  have ex : ∀ (i : Nat) (T : SS) (J : wr_TI), mcV J T → mOld J F → frB I J → wr_V l 5 mX8_dies 34 [some (.ref 55), some (.int (nI i)), none, none] [] SH J L R 0 0 (fun v s' I' L' R' => v = some (.int (if upn g T = 0 then nI i else -1)) ∧ s' = SH ∧ L' = L ∧ R' = R ∧ mcF I' F ∧ mZ I' ∧ frB I I') := by
    intro i T J hT hO hf
    have hup : upn g T < 2 ^ 31 := by have := cn_le (fun s => isU (T.1 s)) (gN g); unfold upn; omega
    refine wv_aload_n dX8_dies_34 rfl ?_
    refine wv_v0e oX8_ups kX8_414 dX8_dies_35 (by omega) (by first | assumption | rfl) ⟨rfl, by decide⟩ (Nat.le_of_ble_eq_true rfl) (Nat.le_of_ble_eq_true rfl) (x_ups hR (gN g) (frB_g hf hg).1 k40) ?_
    rw [ups_of k40 hT]
    refine wv_if_ne (tgt := 45) dX8_dies_38 (by decide) (fun h38 => ?_) (fun h38 => ?_)
    · have hu : ¬ upn g T = 0 := fun q => h38 (by rw [q]; rfl)
      refine wv_iconst (v := 0) dX8_dies_45 (by decide) ?_
      refine wv_istore_k (i := 3) dX8_dies_46 rfl (by decide) ?_
      refine wv_aload_n dX8_dies_47 rfl ?_
      refine wv_v0 oX8_bring kX8_447 dX8_dies_48 (by omega) (by first | assumption | rfl) ⟨rfl, by decide⟩ (Nat.le_of_ble_eq_true rfl) (Nat.le_of_ble_eq_true rfl) (x_bring hR) (fun v7 s7 J7 L7 R7 h7 => ?_)
      obtain ⟨rfl, rfl, rfl, rfl, hB, hf7, hz7, b55⟩ := h7
      refine wv_iload_n dX8_dies_51 rfl ?_
      refine wv_if_eq (tgt := 59) dX8_dies_52 (by decide) (fun h52 => ?_) (fun h52 => ?_)
      · first | (have _ := hu; skip)
        refine wv_iconst (v := (-1)) dX8_dies_59 (by decide) ?_
        refine wv_iret rfl dX8_dies_60 ?_
        first
          | exact absurd h52 (by decide)
          | exact absurd rfl h52
          | (refine ⟨?_, rfl, rfl, rfl, hB F hO, hz7, frB_tr hf hf7⟩
             first
               | rw [if_pos hu]
               | rw [if_neg hu])
      · skip
        refine wv_iload_n dX8_dies_55 rfl ?_
        refine wv_goto (tgt := 60) dX8_dies_56 (by decide) ?_
        refine wv_iret rfl dX8_dies_60 ?_
        first
          | exact absurd h52 (by decide)
          | exact absurd rfl h52
          | (refine ⟨?_, rfl, rfl, rfl, hB F hO, hz7, frB_tr hf hf7⟩
             first
               | rw [if_pos hu]
               | rw [if_neg hu])
    · have hu : upn g T = 0 := (nI_eq (b := 0) hup (by omega)).mp h38
      refine wv_iconst (v := 1) dX8_dies_41 (by decide) ?_
      refine wv_goto (tgt := 46) dX8_dies_42 (by decide) ?_
      refine wv_istore_k (i := 3) dX8_dies_46 rfl (by decide) ?_
      refine wv_aload_n dX8_dies_47 rfl ?_
      refine wv_v0 oX8_bring kX8_447 dX8_dies_48 (by omega) (by first | assumption | rfl) ⟨rfl, by decide⟩ (Nat.le_of_ble_eq_true rfl) (Nat.le_of_ble_eq_true rfl) (x_bring hR) (fun v7 s7 J7 L7 R7 h7 => ?_)
      obtain ⟨rfl, rfl, rfl, rfl, hB, hf7, hz7, b55⟩ := h7
      refine wv_iload_n dX8_dies_51 rfl ?_
      refine wv_if_eq (tgt := 59) dX8_dies_52 (by decide) (fun h52 => ?_) (fun h52 => ?_)
      · first | (have _ := hu; skip)
        refine wv_iconst (v := (-1)) dX8_dies_59 (by decide) ?_
        refine wv_iret rfl dX8_dies_60 ?_
        first
          | exact absurd h52 (by decide)
          | exact absurd rfl h52
          | (refine ⟨?_, rfl, rfl, rfl, hB F hO, hz7, frB_tr hf hf7⟩
             first
               | rw [if_pos hu]
               | rw [if_neg hu])
      · skip
        refine wv_iload_n dX8_dies_55 rfl ?_
        refine wv_goto (tgt := 60) dX8_dies_56 (by decide) ?_
        refine wv_iret rfl dX8_dies_60 ?_
        first
          | exact absurd h52 (by decide)
          | exact absurd rfl h52
          | (refine ⟨?_, rfl, rfl, rfl, hB F hO, hz7, frB_tr hf hf7⟩
             first
               | rw [if_pos hu]
               | rw [if_neg hu])
  have lp : ∀ (k i : Nat) (T : SS) (J : wr_TI), i + k = 400 → mcV J T → mOld J F → mZ J → frB I J → wr_V l 5 mX8_dies 8 [some (.ref 55), some (.int (nI i)), none, none] [] SH J L R 0 0 (fun v s' I' L' R' => v = some (.int (if i + lv g (gD g) (k + 1) T ≤ 400 then nI (i + lv g (gD g) (k + 1) T) else -1)) ∧ s' = SH ∧ L' = L ∧ R' = R ∧ mcF I' F ∧ mZ I' ∧ frB I I') := by
    intro k
    induction k with
    | zero =>
      intro i T J hi hT hO hzJ hf
      obtain rfl : i = 400 := by omega
      refine wv_iload_n dX8_dies_8 rfl ?_
      refine wv_sipush (v := 400) dX8_dies_9 (by decide) ?_
      refine wv_icmp_ge (tgt := 34) dX8_dies_12 (by decide) (fun h12 => ?_) (fun h12 => absurd (nI_le (a := 400) (by omega) (by omega)) h12)
      refine wr_V.imp (wv_le (by simp [wr_leq, wr_s1, wr_s2, wr_wide]) (ex 400 T J hT hO hf)) (fun v s' I' L' R' h => ⟨h.1.trans ?_, h.2⟩)
      by_cases hu : upn g T = 0
      · rw [if_pos hu]; simp [lv, hu]
      · rw [if_neg hu]; simp [lv, hu]
    | succ k ih =>
      intro i T J hi hT hO hzJ hf
      have hup : upn g T < 2 ^ 31 := by have := cn_le (fun s => isU (T.1 s)) (gN g); unfold upn; omega
      refine wv_iload_n dX8_dies_8 rfl ?_
      refine wv_sipush (v := 400) dX8_dies_9 (by decide) ?_
      refine wv_icmp_ge (tgt := 34) dX8_dies_12 (by decide) (fun h12 => absurd h12 (nI_ge (b := 400) (by omega) (by omega))) (fun h12 => ?_)
      refine wv_aload_n dX8_dies_15 rfl ?_
      refine wv_v0e oX8_ups kX8_414 dX8_dies_16 (by omega) (by first | assumption | rfl) ⟨rfl, by decide⟩ (Nat.le_of_ble_eq_true rfl) (Nat.le_of_ble_eq_true rfl) (x_ups hR (gN g) (frB_g hf hg).1 k40) ?_
      refine wv_if_le (tgt := 34) dX8_dies_19 (by decide) (fun h19 => ?_) (fun h19 => ?_)
      · rw [ups_of k40 hT] at h19
        have hu : upn g T = 0 := by
          have := (nI_leI (b := 0) hup (by omega)).mp h19
          omega
        refine wr_V.imp (wv_le (by simp [wr_leq, wr_s1, wr_s2, wr_wide]) (ex i T J hT hO hf)) (fun v s' I' L' R' h => ⟨h.1.trans ?_, h.2⟩)
        rw [if_pos hu]
        have : i ≤ 400 := by omega
        simp [lv, hu, this]
      · rw [ups_of k40 hT] at h19
        have hu : ¬ upn g T = 0 := fun q => h19 (by rw [q]; exact Int32.le_refl _)
        refine wv_aload_n dX8_dies_22 rfl ?_
        refine wv_iconst (v := 0) dX8_dies_23 (by decide) ?_
        refine wv_v1 oX8_step kX8_431 dX8_dies_24 (by omega) (by first | assumption | rfl) ⟨rfl, by decide⟩ (Nat.le_of_ble_eq_true rfl) (Nat.le_of_ble_eq_true rfl) (x_stepD hR g T ok (frB_g hf hg) hT (gD g) (dr_of k40 (frB_g hf hg) hzJ)) (fun v9 s9 J9 L9 R9 h9 => ?_)
        obtain ⟨⟨x9, rfl⟩, rfl, rfl, rfl, hT9, hw9, hf9⟩ := h9
        refine wv_istore_k (i := 2) dX8_dies_27 rfl (by decide) ?_
        refine wv_iinc (v := nI (i + 1)) dX8_dies_28 rfl (nI_1 (i)) (by decide) ?_
        refine wv_goto (tgt := 8) dX8_dies_31 (by decide) ?_
        refine wr_V.imp (wv_le (by simp [wr_leq, wr_s1, wr_s2, wr_wide]) (ih (i + 1) _ J9 (by omega) hT9 (mOld_S hO hf9 hw9) (frS_z hf9 hzJ) (frB_tr hf (frB_S hf9)))) (fun v s' I' L' R' h => ⟨h.1.trans ?_, h.2⟩)
        have e : lv g (gD g) (k + 1 + 1) T = lv g (gD g) (k + 1) (stp g (wnt g (gD g) T) T) + 1 := by
          rw [lv, if_neg hu]
        rw [e, show i + 1 + lv g (gD g) (k + 1) (stp g (wnt g (gD g) T) T) = i + (lv g (gD g) (k + 1) (stp g (wnt g (gD g) T) T) + 1) by omega]
  refine wv_pad 3 ?_
  show wr_V l 5 mX8_dies 0 [some (.ref 55), none, none, none] [] SH I L R 0 0 _
  refine wv_aload_n dX8_dies_0 rfl ?_
  refine wv_v0 oX8_put kX8_444 dX8_dies_1 (by omega) (by first | assumption | rfl) ⟨rfl, by decide⟩ (Nat.le_of_ble_eq_true rfl) (Nat.le_of_ble_eq_true rfl) (x_put hR) (fun v8 s8 J8 L8 R8 h8 => ?_)
  obtain ⟨rfl, rfl, rfl, rfl, hO, hf8, p75, p76, p80, p82, p55⟩ := h8
  refine wv_iconst (v := nI 0) dX8_dies_4 rfl ?_
  refine wv_istore_k (i := 1) dX8_dies_5 rfl (by decide) ?_
  refine wv_iconst (v := 0) dX8_dies_6 (by decide) ?_
  refine wv_istore_k (i := 2) dX8_dies_7 rfl (by decide) ?_
  refine wr_V.imp (wv_le (by simp [wr_leq, wr_s1, wr_s2, wr_wide]) (lp 400 0 F.1 J8 (by omega) (mcF_put hF p75 p76 p80 p55).1 (hO F hF) (frB_z p82 hz) hf8)) (fun v s' I' L' R' h => ⟨h.1.trans ?_, h.2⟩)
  unfold aDies
  rw [Nat.zero_add, show (400 + 1 : Nat) = 401 from rfl]
  by_cases hu : lv g (gD g) 401 F.1 ≤ 400
  · rw [if_pos hu, if_neg (by omega)]
  · rw [if_neg hu, if_pos (by omega)]

set_option maxHeartbeats 4000000 in
set_option maxRecDepth 100000 in
theorem xW_till {l : Launch} {I : wr_TI} {L : wr_TL} {R : wr_TR} (hR : wr_RC R) (g : RG) (F : FS) (ok : gOK g) (hg : mgV I g) (hF : mcF I F) (hz : mZ I) (hro : ∀ s, ∃ r, F.1.2.1 s = nI r ∧ r ≤ 2000000) (x m : Int32) : wr_P l 5 mX8_till [.ref 55, .int x, .int m] SH I L R (fun v s' I' L' R' => v = some (.int (aTill g F.1 x m)) ∧ s' = SH ∧ L' = L ∧ R' = R ∧ mcF I' F ∧ mZ I' ∧ frB I I') := by
  obtain ⟨k6, k40, -⟩ := id ok
  have hn : I 55 28 = nI (gN g) := hg.1
  have core : ∀ (a tm r0 : Nat), a < gN g → 1 ≤ tm → tm ≤ 9 → r0 ≤ 2000000 → F.1.2.1 a = nI r0 → ∀ J8 : wr_TI, mcV J8 F.1 → mOld J8 F → mZ J8 → frB I J8 → wr_V l 5 mX8_till 40 [some (.ref 55), some (.int (nI a)), some (.int (nI tm)), some (.int (nI 0)), some (.int (nI (r0 + tm))), none, none] [] SH J8 L R 0 0 (fun v s' I' L' R' => v = some (.int (tlG g a tm 400 1 0 F.1)) ∧ s' = SH ∧ L' = L ∧ R' = R ∧ mcF I' F ∧ mZ I' ∧ frB I I') := by
    intro a tm r0 ha h1 h9 hr0 hro J8 hT8 hO8 hz8 hf8
    have ex : ∀ (i c : Nat) (T : SS) (J : wr_TI), c ≤ tm → T.2.1 a = nI (r0 + c) → mcV J T → mOld J F → frB I J → wr_V l 5 mX8_till 71 [some (.ref 55), some (.int (nI a)), some (.int (nI tm)), some (.int (nI i)), some (.int (nI (r0 + tm))), none, none] [] SH J L R 0 0 (fun v s' I' L' R' => v = some (.int (if c = tm then nI i else -1)) ∧ s' = SH ∧ L' = L ∧ R' = R ∧ mcF I' F ∧ mZ I' ∧ frB I I') := by
      intro i c T J hc hTa hT hO hf
      have eR : J 76 a = nI (r0 + c) := by rw [hT.2.1 a (by omega)]; exact hTa
      refine wv_aload_n dX8_till_71 rfl ?_
      refine wv_getR fX8_75 dX8_till_72 rfl (by first | assumption | rfl) (by first | exact hR _ _ _ rfl | assumption) ?_
      refine wv_iload_n dX8_till_75 rfl ?_
      refine wv_ialdN dX8_till_76 (by first | assumption | rfl) (by omega) (by decide) ?_
      refine wv_iload dX8_till_77 rfl ?_
      refine wv_icmp_lt (tgt := 86) dX8_till_79 (by decide) (fun h79 => ?_) (fun h79 => ?_)
      · rw [eR, nI_ltI (by omega) (by omega)] at h79
        have hu : ¬ c = tm := by omega
        refine wv_iconst (v := 0) dX8_till_86 (by decide) ?_
        refine wv_istore dX8_till_87 (by decide) ?_
        refine wv_aload_n dX8_till_89 rfl ?_
        refine wv_v0 oX8_bring kX8_447 dX8_till_90 (by omega) (by first | assumption | rfl) ⟨rfl, by decide⟩ (Nat.le_of_ble_eq_true rfl) (Nat.le_of_ble_eq_true rfl) (x_bring hR) (fun v7 s7 J7 L7 R7 h7 => ?_)
        obtain ⟨rfl, rfl, rfl, rfl, hB, hf7, hz7, b55⟩ := h7
        refine wv_iload dX8_till_93 rfl ?_
        refine wv_if_eq (tgt := 102) dX8_till_95 (by decide) (fun h95 => ?_) (fun h95 => ?_)
        · refine wv_iconst (v := (-1)) dX8_till_102 (by decide) ?_
          refine wv_iret rfl dX8_till_103 ?_
          first
            | exact absurd h95 (by decide)
            | exact absurd rfl h95
            | (refine ⟨?_, rfl, rfl, rfl, hB F hO, hz7, frB_tr hf hf7⟩
               first
                 | rw [if_pos hu]
                 | rw [if_neg hu])
        · refine wv_iload_n dX8_till_98 rfl ?_
          refine wv_goto (tgt := 103) dX8_till_99 (by decide) ?_
          refine wv_iret rfl dX8_till_103 ?_
          first
            | exact absurd h95 (by decide)
            | exact absurd rfl h95
            | (refine ⟨?_, rfl, rfl, rfl, hB F hO, hz7, frB_tr hf hf7⟩
               first
                 | rw [if_pos hu]
                 | rw [if_neg hu])
      · rw [eR, nI_ltI (by omega) (by omega)] at h79
        have hu : c = tm := by omega
        refine wv_iconst (v := 1) dX8_till_82 (by decide) ?_
        refine wv_goto (tgt := 87) dX8_till_83 (by decide) ?_
        refine wv_istore dX8_till_87 (by decide) ?_
        refine wv_aload_n dX8_till_89 rfl ?_
        refine wv_v0 oX8_bring kX8_447 dX8_till_90 (by omega) (by first | assumption | rfl) ⟨rfl, by decide⟩ (Nat.le_of_ble_eq_true rfl) (Nat.le_of_ble_eq_true rfl) (x_bring hR) (fun v7 s7 J7 L7 R7 h7 => ?_)
        obtain ⟨rfl, rfl, rfl, rfl, hB, hf7, hz7, b55⟩ := h7
        refine wv_iload dX8_till_93 rfl ?_
        refine wv_if_eq (tgt := 102) dX8_till_95 (by decide) (fun h95 => ?_) (fun h95 => ?_)
        · refine wv_iconst (v := (-1)) dX8_till_102 (by decide) ?_
          refine wv_iret rfl dX8_till_103 ?_
          first
            | exact absurd h95 (by decide)
            | exact absurd rfl h95
            | (refine ⟨?_, rfl, rfl, rfl, hB F hO, hz7, frB_tr hf hf7⟩
               first
                 | rw [if_pos hu]
                 | rw [if_neg hu])
        · refine wv_iload_n dX8_till_98 rfl ?_
          refine wv_goto (tgt := 103) dX8_till_99 (by decide) ?_
          refine wv_iret rfl dX8_till_103 ?_
          first
            | exact absurd h95 (by decide)
            | exact absurd rfl h95
            | (refine ⟨?_, rfl, rfl, rfl, hB F hO, hz7, frB_tr hf hf7⟩
               first
                 | rw [if_pos hu]
                 | rw [if_neg hu])
    have hx : ∀ (i : Nat) (T : SS) (J : wr_TI), i ≤ 400 → T.2.1 a = nI (r0 + tm) → mcV J T → mOld J F → frB I J → wr_V l 5 mX8_till 40 [some (.ref 55), some (.int (nI a)), some (.int (nI tm)), some (.int (nI i)), some (.int (nI (r0 + tm))), none, none] [] SH J L R 0 0 (fun v s' I' L' R' => v = some (.int (nI i)) ∧ s' = SH ∧ L' = L ∧ R' = R ∧ mcF I' F ∧ mZ I' ∧ frB I I') := by
      intro i T J hi hTa hT hO hf
      have eR : J 76 a = nI (r0 + tm) := by rw [hT.2.1 a (by omega)]; exact hTa
      refine wv_iload_n dX8_till_40 rfl ?_
      refine wv_sipush (v := 400) dX8_till_41 (by decide) ?_
      refine wv_icmp_ge (tgt := 71) dX8_till_44 (by decide) (fun h44 => ?_) (fun h44 => ?_)
      · refine wr_V.imp (wv_le (by simp [wr_leq, wr_s1, wr_s2, wr_wide]) (ex i tm T J (Nat.le_refl _) hTa hT hO hf)) (fun v s' I' L' R' h => ⟨h.1.trans ?_, h.2⟩)
        rw [if_pos rfl]
      · refine wv_aload_n dX8_till_47 rfl ?_
        refine wv_getR fX8_75 dX8_till_48 rfl (by first | assumption | rfl) (by first | exact hR _ _ _ rfl | assumption) ?_
        refine wv_iload_n dX8_till_51 rfl ?_
        refine wv_ialdN dX8_till_52 (by first | assumption | rfl) (by omega) (by decide) ?_
        refine wv_iload dX8_till_53 rfl ?_
        refine wv_icmp_ge (tgt := 71) dX8_till_55 (by decide) (fun h55 => ?_) (fun h55 => absurd (by rw [eR]; exact Int32.le_refl _) h55)
        refine wr_V.imp (wv_le (by simp [wr_leq, wr_s1, wr_s2, wr_wide]) (ex i tm T J (Nat.le_refl _) hTa hT hO hf)) (fun v s' I' L' R' h => ⟨h.1.trans ?_, h.2⟩)
        rw [if_pos rfl]
    have lp : ∀ (k i c : Nat) (T : SS) (J : wr_TI), i + k = 400 → c < tm → T.2.1 a = nI (r0 + c) → mcV J T → mOld J F → mZ J → frB I J → wr_V l 5 mX8_till 40 [some (.ref 55), some (.int (nI a)), some (.int (nI tm)), some (.int (nI i)), some (.int (nI (r0 + tm))), none, none] [] SH J L R 0 0 (fun v s' I' L' R' => v = some (.int (tlG g a tm k (i + 1) c T)) ∧ s' = SH ∧ L' = L ∧ R' = R ∧ mcF I' F ∧ mZ I' ∧ frB I I') := by
      intro k
      induction k with
      | zero =>
        intro i c T J hi hc hTa hT hO hzJ hf
        obtain rfl : i = 400 := by omega
        refine wv_iload_n dX8_till_40 rfl ?_
        refine wv_sipush (v := 400) dX8_till_41 (by decide) ?_
        refine wv_icmp_ge (tgt := 71) dX8_till_44 (by decide) (fun h44 => ?_) (fun h44 => absurd (nI_le (a := 400) (by omega) (by omega)) h44)
        refine wr_V.imp (wv_le (by simp [wr_leq, wr_s1, wr_s2, wr_wide]) (ex 400 c T J (by omega) hTa hT hO hf)) (fun v s' I' L' R' h => ⟨h.1.trans ?_, h.2⟩)
        rw [if_neg (by omega)]
        rfl
      | succ k ih =>
        intro i c T J hi hc hTa hT hO hzJ hf
        have eR : J 76 a = nI (r0 + c) := by rw [hT.2.1 a (by omega)]; exact hTa
        refine wv_iload_n dX8_till_40 rfl ?_
        refine wv_sipush (v := 400) dX8_till_41 (by decide) ?_
        refine wv_icmp_ge (tgt := 71) dX8_till_44 (by decide) (fun h44 => absurd h44 (nI_ge (b := 400) (by omega) (by omega))) (fun h44 => ?_)
        refine wv_aload_n dX8_till_47 rfl ?_
        refine wv_getR fX8_75 dX8_till_48 rfl (by first | assumption | rfl) (by first | exact hR _ _ _ rfl | assumption) ?_
        refine wv_iload_n dX8_till_51 rfl ?_
        refine wv_ialdN dX8_till_52 (by first | assumption | rfl) (by omega) (by decide) ?_
        refine wv_iload dX8_till_53 rfl ?_
        refine wv_icmp_ge (tgt := 71) dX8_till_55 (by decide) (fun h55 => absurd h55 (by rw [eR]; exact nI_ge (by omega) (by omega))) (fun h55 => ?_)
        refine wv_aload_n dX8_till_58 rfl ?_
        refine wv_iconst (v := 0) dX8_till_59 (by decide) ?_
        refine wv_v1 oX8_step kX8_431 dX8_till_60 (by omega) (by first | assumption | rfl) ⟨rfl, by decide⟩ (Nat.le_of_ble_eq_true rfl) (Nat.le_of_ble_eq_true rfl) (x_stepD hR g T ok (frB_g hf hg) hT (gD g) (dr_of k40 (frB_g hf hg) hzJ)) (fun v9 s9 J9 L9 R9 h9 => ?_)
        obtain ⟨⟨x9, rfl⟩, rfl, rfl, rfl, hT9, hw9, hf9⟩ := h9
        refine wv_istore dX8_till_63 (by decide) ?_
        refine wv_iinc (v := nI (i + 1)) dX8_till_65 rfl (nI_1 (i)) (by decide) ?_
        refine wv_goto (tgt := 40) dX8_till_68 (by decide) ?_
        have e9 : (stp g (wnt g (gD g) T) T).2.1 a = nI (r0 + (if wnt g (gD g) T a = true then c + 1 else c)) := by
          simp only [stp]
          by_cases hw : wnt g (gD g) T a = true
          · rw [if_pos ⟨ha, hw⟩, if_pos hw, hTa, nI_1, Nat.add_assoc]
          · rw [if_neg (fun q => hw q.2), if_neg hw, hTa]
        simp only [tlG]
        by_cases hd : (if wnt g (gD g) T a = true then c + 1 else c) = tm
        · rw [if_pos hd]
          rw [hd] at e9
          exact wv_le (by simp [wr_leq, wr_s1, wr_s2, wr_wide]) (hx (i + 1) _ J9 (by omega) e9 hT9 (mOld_S hO hf9 hw9) (frB_tr hf (frB_S hf9)))
        · rw [if_neg hd]
          refine wv_le (by simp [wr_leq, wr_s1, wr_s2, wr_wide]) (ih (i + 1) _ _ J9 (by omega) ?_ e9 hT9 (mOld_S hO hf9 hw9) (frS_z hf9 hzJ) (frB_tr hf (frB_S hf9)))
          by_cases hw : wnt g (gD g) T a = true
          · rw [if_pos hw] at hd ⊢; omega
          · rw [if_neg hw] at hd ⊢; omega
    exact lp 400 0 0 F.1 J8 (by omega) (by omega) (by simpa using hro) hT8 hO8 hz8 hf8
  refine wv_pad 4 ?_
  show wr_V l 5 mX8_till 0 [some (.ref 55), some (.int x), some (.int m), none, none, none, none] [] SH I L R 0 0 _
  refine wv_aload_n dX8_till_0 rfl ?_
  refine wv_iload_n dX8_till_1 rfl ?_
  refine wv_v1e oX8_isSeat kX8_435 dX8_till_2 (by omega) (by first | assumption | rfl) ⟨rfl, by decide⟩ (Nat.le_of_ble_eq_true rfl) (Nat.le_of_ble_eq_true rfl) (x_isSeat _) ?_
  refine wv_if_eq (tgt := 19) dX8_till_5 (by decide) (fun h5 => ?_) (fun h5 => ?_)
  · rw [hn, if10] at h5
    refine wv_iconst (v := (-1)) dX8_till_19 (by decide) ?_
    refine wv_iret rfl dX8_till_20 ?_
    refine ⟨?_, rfl, rfl, rfl, hF, hz, frB_rf⟩
    unfold aTill
    rw [if_neg (fun q => by have q1 := q.1; have q2 := q.2.1; have q3 := q.2.2; grind)]
  · rw [hn, if10] at h5
    have hx : oS g x := Decidable.not_not.mp h5
    refine wv_iload_n dX8_till_8 rfl ?_
    refine wv_iconst (v := 1) dX8_till_9 (by decide) ?_
    refine wv_icmp_lt (tgt := 19) dX8_till_10 (by decide) (fun h10 => ?_) (fun h10 => ?_)
    · refine wv_iconst (v := (-1)) dX8_till_19 (by decide) ?_
      refine wv_iret rfl dX8_till_20 ?_
      refine ⟨?_, rfl, rfl, rfl, hF, hz, frB_rf⟩
      unfold aTill
      rw [if_neg (fun q => by have q1 := q.1; have q2 := q.2.1; have q3 := q.2.2; grind)]
    · refine wv_iload_n dX8_till_13 rfl ?_
      refine wv_bipush (v := 9) dX8_till_14 (by decide) ?_
      refine wv_icmp_le (tgt := 21) dX8_till_16 (by decide) (fun h16 => ?_) (fun h16 => ?_)
      · have hm : 1 ≤ m ∧ m ≤ 9 := ⟨Int32.not_lt.mp h10, h16⟩
        obtain ⟨a, ha, rfl⟩ := ix_of hx (by omega)
        obtain ⟨tm, htm, rfl⟩ := nI_of2 (M := 9) (n := 9) (x := m) rfl (fun z => by have := hm.1; grind) h16
        have htm1 : 1 ≤ tm := (nI_leI (a := 1) (by omega) (by omega)).mp hm.1
        obtain ⟨r0, hr0, hr1⟩ := hro a
        refine wv_aload_n dX8_till_21 rfl ?_
        refine wv_v0 oX8_put kX8_444 dX8_till_22 (by omega) (by first | assumption | rfl) ⟨rfl, by decide⟩ (Nat.le_of_ble_eq_true rfl) (Nat.le_of_ble_eq_true rfl) (x_put hR) (fun v8 s8 J8 L8 R8 h8 => ?_)
        obtain ⟨rfl, rfl, rfl, rfl, hO, hf8, p75, p76, p80, p82, p55⟩ := h8
        refine wv_iconst (v := nI 0) dX8_till_25 rfl ?_
        refine wv_istore_k (i := 3) dX8_till_26 rfl (by decide) ?_
        refine wv_aload_n dX8_till_27 rfl ?_
        refine wv_getR fX8_75 dX8_till_28 rfl (by first | assumption | rfl) (by first | exact hR _ _ _ rfl | assumption) ?_
        refine wv_iload_n dX8_till_31 rfl ?_
        refine wv_ialdN dX8_till_32 (by first | assumption | rfl) (by omega) (by decide) ?_
        rw [p76, hF.1.2.1 a (by omega), hr0]
        refine wv_iload_n dX8_till_33 rfl ?_
        refine wv_iadd dX8_till_34 ?_
        rw [nI_add]
        refine wv_istore dX8_till_35 (by decide) ?_
        refine wv_iconst (v := 0) dX8_till_37 (by decide) ?_
        refine wv_istore dX8_till_38 (by decide) ?_
        refine wr_V.imp (wv_le (by simp [wr_leq, wr_s1, wr_s2, wr_wide]) (core a tm r0 ha htm1 htm hr1 hr0 J8 (mcF_put hF p75 p76 p80 p55).1 (hO F hF) (frB_z p82 hz) hf8)) (fun v s' I' L' R' h => ⟨h.1.trans ?_, h.2⟩)
        unfold aTill
        rw [if_pos ⟨hx, hm⟩, tN_nI (by omega), tN_nI (by omega)]
      · refine wv_iconst (v := (-1)) dX8_till_19 (by decide) ?_
        refine wv_iret rfl dX8_till_20 ?_
        refine ⟨?_, rfl, rfl, rfl, hF, hz, frB_rf⟩
        unfold aTill
        rw [if_neg (fun q => by have q1 := q.1; have q2 := q.2.1; have q3 := q.2.2; grind)]

