/-! what stands here -/
def tkO (k : TK) : Prop := k.1 ≤ 4 ∧ k.2.1 ≤ k.2.2.1 ∧ k.2.2.1 ≤ 800
theorem bt_lt {T : TP} {a : Nat} (h : ¬ bt T a = -1) (hT : T.1 ≤ 800) (ha : a ≤ 800) : a < T.1 := by
  unfold bt tpG at h
  by_cases hc : 0 ≤ nI a ∧ nI a < nI T.1
  · exact (nI_ltI (by omega) (by omega)).mp hc.2
  · rw [if_neg hc] at h; exact absurd rfl h
theorem tkS_o {T : TP} {p : Nat} (hT : T.1 ≤ 800) (hp : p ≤ 800) : tkO (tkS T p) := by
  unfold tkS
  have ha := rnE_ge cB T (800 - p) p
  generalize rnE cB T (800 - p) p = a at ha
  have h1 := rnE_ge cLt T (800 - a) a
  have h2 := rnE_ge cDg T (800 - a) a
  unfold tkA
  by_cases h48 : bt T a = -1
  · rw [if_pos h48]; exact ⟨by simp only; omega, by simp only; omega, by simp only; omega⟩
  · rw [if_neg h48]
    have := bt_lt h48 hT (by omega)
    by_cases h68 : cLt (bt T a) = true
    · rw [if_pos h68]; exact ⟨by simp only; split <;> omega, by simp only; omega, by simp only; omega⟩
    · rw [if_neg h68]
      by_cases h82 : cDg (bt T a) = true
      · rw [if_pos h82]; exact ⟨by simp only; split <;> omega, by simp only; omega, by simp only; omega⟩
      · rw [if_neg h82]; exact ⟨by simp only; split <;> omega, by simp only; omega, by simp only; omega⟩
def isS (T : TP) (k : TK) (c : Int32) : Bool := decide (k.1 = 3 ∧ bt T k.2.1 = c)
/-- what refusing the token here says -/
def rfF (k : TK) : Int32 := if k.1 = 4 then 1 else 2
def rfI (I : wr_TI) (f : Int32) (k : TK) : wr_TI := wr_uI (wr_uI I 17 9 f) 17 10 (nI k.2.1)
theorem tkV_rf {I : wr_TI} {k : TK} {f : Int32} (h : tkV I k) : tkV (rfI I f k) k := by
  obtain ⟨h1, h2, h3, h4⟩ := h
  exact ⟨by simp [rfI, wr_uI, h1], by simp [rfI, wr_uI, h2], by simp [rfI, wr_uI, h3], fun h => by simp [rfI, wr_uI, h4 h]⟩
set_option maxHeartbeats 4000000 in
set_option maxRecDepth 100000 in
theorem cD_isSign {l : Launch} {I : wr_TI} {L : wr_TL} {R : wr_TR} (hR : wr_RC R) (T : TP) (k : TK) (hT : tpV I T) (hk : tkV I k) (ho : tkO k) (c : Int32) : wr_E l 1 mX4_isSign [.ref 17, .int c] SH I L R (some (.int (if isS T k c = true then 1 else 0))) I L R := by
  obtain ⟨k1, k2, k3, k4⟩ := id hk
  obtain ⟨o1, o2, o3⟩ := id ho
  refine wv_pad 0 ?_
  show wr_V l 1 mX4_isSign 0 [some (.ref 17), some (.int c)] [] SH I L R 0 0 _
  refine wv_aload_n dX4_isSign_0 rfl ?_
  refine wv_getI fX4_47 dX4_isSign_1 rfl (by first | assumption | rfl) ?_
  refine wv_iconst (v := 3) dX4_isSign_4 (by decide) ?_
  refine wv_icmp_ne (tgt := 27) dX4_isSign_5 (by decide) (fun h5 => ?_) (fun h5 => ?_)
  · rw [k1] at h5
    have hno : ¬ k.1 = 3 := fun z => h5 (by rw [z]; rfl)
    refine wv_iconst (v := 0) dX4_isSign_27 (by decide) ?_
    refine wv_zret rfl rfl dX4_isSign_28 ?_
    refine ⟨?_, rfl, rfl, rfl, rfl⟩
    unfold isS
    first
    | (have _ := hno; simp [hno]; done)
    | simp [hye, h20]
  · rw [k1] at h5
    have hye : k.1 = 3 := (nI_eq (b := 3) (by omega) (by omega)).mp h5
    refine wv_aload_n dX4_isSign_8 rfl ?_
    refine wv_getR fX4_9 dX4_isSign_9 rfl (by first | assumption | rfl) (by first | exact hR _ _ _ rfl | assumption) ?_
    refine wv_aload_n dX4_isSign_12 rfl ?_
    refine wv_getI fX4_210 dX4_isSign_13 rfl (by first | assumption | rfl) ?_
    rw [k2]
    refine wv_v1e oX6_at kX4_213 dX4_isSign_16 (by omega) (by first | assumption | rfl) ⟨rfl, by decide⟩ (Nat.le_of_ble_eq_true rfl) (Nat.le_of_ble_eq_true rfl) (cT_at hR T _ hT) ?_
    refine wv_iload_n dX4_isSign_19 rfl ?_
    refine wv_icmp_ne (tgt := 27) dX4_isSign_20 (by decide) (fun h20 => ?_) (fun h20 => ?_)
    · have h20 : ¬ bt T k.2.1 = c := h20
      refine wv_iconst (v := 0) dX4_isSign_27 (by decide) ?_
      refine wv_zret rfl rfl dX4_isSign_28 ?_
      refine ⟨?_, rfl, rfl, rfl, rfl⟩
      unfold isS
      first
      | (have _ := hno; simp [hno]; done)
      | simp [hye, h20]
    · have h20 : bt T k.2.1 = c := h20
      refine wv_iconst (v := 1) dX4_isSign_23 (by decide) ?_
      refine wv_goto (tgt := 28) dX4_isSign_24 (by decide) ?_
      refine wv_zret rfl rfl dX4_isSign_28 ?_
      refine ⟨?_, rfl, rfl, rfl, rfl⟩
      unfold isS
      first
      | (have _ := hno; simp [hno]; done)
      | simp [hye, h20]

set_option maxHeartbeats 4000000 in
set_option maxRecDepth 100000 in
theorem cD_refuse {l : Launch} {I : wr_TI} {L : wr_TL} {R : wr_TR} (hR : wr_RC R) (k : TK) (hk : tkV I k) (ho : tkO k) : wr_E l 0 mX4_refuse [.ref 17] SH I L R (some (.int 0)) (rfI I (rfF k) k) L R := by
  obtain ⟨k1, k2, k3, k4⟩ := id hk
  obtain ⟨o1, o2, o3⟩ := id ho
  refine wv_pad 0 ?_
  show wr_V l 0 mX4_refuse 0 [some (.ref 17)] [] SH I L R 0 0 _
  refine wv_aload_n dX4_refuse_0 rfl ?_
  refine wv_aload_n dX4_refuse_1 rfl ?_
  refine wv_getI fX4_47 dX4_refuse_2 rfl (by first | assumption | rfl) ?_
  refine wv_iconst (v := 4) dX4_refuse_5 (by decide) ?_
  refine wv_icmp_ne (tgt := 13) dX4_refuse_6 (by decide) (fun h6 => ?_) (fun h6 => ?_)
  · rw [k1] at h6
    have hno : ¬ k.1 = 4 := fun z => h6 (by rw [z]; rfl)
    refine wv_iconst (v := 2) dX4_refuse_13 (by decide) ?_
    refine wv_putI fX4_38 dX4_refuse_14 rfl rfl rfl rfl (by first | assumption | rfl) ?_
    refine wv_aload_n dX4_refuse_17 rfl ?_
    refine wv_aload_n dX4_refuse_18 rfl ?_
    refine wv_getI fX4_210 dX4_refuse_19 rfl (by first | assumption | rfl) ?_
    refine wv_putI fX4_19 dX4_refuse_22 rfl rfl rfl rfl (by first | assumption | rfl) ?_
    refine wv_iconst (v := 0) dX4_refuse_25 (by decide) ?_
    refine wv_zret rfl rfl dX4_refuse_26 ?_
    refine ⟨rfl, rfl, ?_, rfl, rfl⟩
    unfold rfI rfF
    first
    | (have _ := hno; rw [if_neg hno]; simp only [wr_uI]; rw [if_neg (by omega), k2]; done)
    | (rw [if_pos hye]; simp only [wr_uI]; rw [if_neg (by omega), k2])
  · rw [k1] at h6
    have hye : k.1 = 4 := (nI_eq (b := 4) (by omega) (by omega)).mp h6
    refine wv_iconst (v := 1) dX4_refuse_9 (by decide) ?_
    refine wv_goto (tgt := 14) dX4_refuse_10 (by decide) ?_
    refine wv_putI fX4_38 dX4_refuse_14 rfl rfl rfl rfl (by first | assumption | rfl) ?_
    refine wv_aload_n dX4_refuse_17 rfl ?_
    refine wv_aload_n dX4_refuse_18 rfl ?_
    refine wv_getI fX4_210 dX4_refuse_19 rfl (by first | assumption | rfl) ?_
    refine wv_putI fX4_19 dX4_refuse_22 rfl rfl rfl rfl (by first | assumption | rfl) ?_
    refine wv_iconst (v := 0) dX4_refuse_25 (by decide) ?_
    refine wv_zret rfl rfl dX4_refuse_26 ?_
    refine ⟨rfl, rfl, ?_, rfl, rfl⟩
    unfold rfI rfF
    first
    | (have _ := hno; rw [if_neg hno]; simp only [wr_uI]; rw [if_neg (by omega), k2]; done)
    | (rw [if_pos hye]; simp only [wr_uI]; rw [if_neg (by omega), k2])

def tkN (k : TK) (a b : Int32) : Bool := decide (k.1 = 2 ∧ a ≤ k.2.2.2 ∧ k.2.2.2 ≤ b)
def tnF (k : TK) : Int32 := if k.1 = 2 then 4 else rfF k
set_option maxHeartbeats 4000000 in
set_option maxRecDepth 100000 in
theorem cD_takeN {l : Launch} {I : wr_TI} {L : wr_TL} {R : wr_TR} (hR : wr_RC R) (k : TK) (hk : tkV I k) (ho : tkO k) (a b : Int32) : wr_E l 1 mX4_takeNumber [.ref 17, .int a, .int b] SH I L R (some (.int (if tkN k a b = true then 1 else 0))) (if tkN k a b = true then I else rfI I (tnF k) k) L R := by
  obtain ⟨k1, k2, k3, k4⟩ := id hk
  obtain ⟨o1, o2, o3⟩ := id ho
  refine wv_pad 0 ?_
  show wr_V l 1 mX4_takeNumber 0 [some (.ref 17), some (.int a), some (.int b)] [] SH I L R 0 0 _
  refine wv_aload_n dX4_takeNumber_0 rfl ?_
  refine wv_getI fX4_47 dX4_takeNumber_1 rfl (by first | assumption | rfl) ?_
  refine wv_iconst (v := 2) dX4_takeNumber_4 (by decide) ?_
  refine wv_icmp_eq (tgt := 13) dX4_takeNumber_5 (by decide) (fun h5 => ?_) (fun h5 => ?_)
  · rw [k1] at h5
    have hye : k.1 = 2 := (nI_eq (b := 2) (by omega) (by omega)).mp h5
    have k8 := k4 hye
    refine wv_aload_n dX4_takeNumber_13 rfl ?_
    refine wv_getI fX4_89 dX4_takeNumber_14 rfl (by first | assumption | rfl) ?_
    refine wv_iload_n dX4_takeNumber_17 rfl ?_
    refine wv_icmp_lt (tgt := 29) dX4_takeNumber_18 (by decide) (fun h18 => ?_) (fun h18 => ?_)
    · rw [k8] at h18
      refine wv_aload_n dX4_takeNumber_29 rfl ?_
      refine wv_iconst (v := 4) dX4_takeNumber_30 (by decide) ?_
      refine wv_putI fX4_38 dX4_takeNumber_31 rfl rfl rfl rfl (by first | assumption | rfl) ?_
      refine wv_aload_n dX4_takeNumber_34 rfl ?_
      refine wv_aload_n dX4_takeNumber_35 rfl ?_
      refine wv_getI fX4_210 dX4_takeNumber_36 rfl (by first | assumption | rfl) ?_
      refine wv_putI fX4_19 dX4_takeNumber_39 rfl rfl rfl rfl (by first | assumption | rfl) ?_
      refine wv_iconst (v := 0) dX4_takeNumber_42 (by decide) ?_
      refine wv_zret rfl rfl dX4_takeNumber_43 ?_
      have e : tkN k a b = false := by
        unfold tkN
        rw [decide_eq_false_iff_not]
        grind
      rw [e]
      refine ⟨rfl, rfl, ?_, rfl, rfl⟩
      simp only [tnF, rfI]
      rw [if_pos hye, if_neg (by decide)]
      simp only [wr_uI]
      rw [if_neg (by omega), k2]
    · rw [k8] at h18
      refine wv_aload_n dX4_takeNumber_21 rfl ?_
      refine wv_getI fX4_89 dX4_takeNumber_22 rfl (by first | assumption | rfl) ?_
      refine wv_iload_n dX4_takeNumber_25 rfl ?_
      refine wv_icmp_le (tgt := 44) dX4_takeNumber_26 (by decide) (fun h26 => ?_) (fun h26 => ?_)
      · rw [k8] at h26
        refine wv_iconst (v := 1) dX4_takeNumber_44 (by decide) ?_
        refine wv_zret rfl rfl dX4_takeNumber_45 ?_
        have e : tkN k a b = true := by
          unfold tkN
          rw [decide_eq_true_iff]
          grind
        rw [e]
        exact ⟨rfl, rfl, rfl, rfl, rfl⟩
      · rw [k8] at h26
        refine wv_aload_n dX4_takeNumber_29 rfl ?_
        refine wv_iconst (v := 4) dX4_takeNumber_30 (by decide) ?_
        refine wv_putI fX4_38 dX4_takeNumber_31 rfl rfl rfl rfl (by first | assumption | rfl) ?_
        refine wv_aload_n dX4_takeNumber_34 rfl ?_
        refine wv_aload_n dX4_takeNumber_35 rfl ?_
        refine wv_getI fX4_210 dX4_takeNumber_36 rfl (by first | assumption | rfl) ?_
        refine wv_putI fX4_19 dX4_takeNumber_39 rfl rfl rfl rfl (by first | assumption | rfl) ?_
        refine wv_iconst (v := 0) dX4_takeNumber_42 (by decide) ?_
        refine wv_zret rfl rfl dX4_takeNumber_43 ?_
        have e : tkN k a b = false := by
          unfold tkN
          rw [decide_eq_false_iff_not]
          grind
        rw [e]
        refine ⟨rfl, rfl, ?_, rfl, rfl⟩
        simp only [tnF, rfI]
        rw [if_pos hye, if_neg (by decide)]
        simp only [wr_uI]
        rw [if_neg (by omega), k2]
  · rw [k1] at h5
    have hno : ¬ k.1 = 2 := fun z => h5 (by rw [z]; rfl)
    refine wv_aload_n dX4_takeNumber_8 rfl ?_
    refine wv_v0e oX4_refuse kX4_82 dX4_takeNumber_9 (by omega) (by first | assumption | rfl) ⟨rfl, by decide⟩ (Nat.le_of_ble_eq_true rfl) (Nat.le_of_ble_eq_true rfl) (cD_refuse hR k hk ho) ?_
    refine wv_zret rfl rfl dX4_takeNumber_12 ?_
    have e : tkN k a b = false := by simp [tkN, hno]
    rw [e]
    refine ⟨rfl, rfl, ?_, rfl, rfl⟩
    simp [tnF, hno]

set_option maxHeartbeats 4000000 in
set_option maxRecDepth 100000 in
theorem cD_takeS {l : Launch} {I : wr_TI} {L : wr_TL} {R : wr_TR} (hR : wr_RC R) (T : TP) (k : TK) (hT : tpV I T) (hk : tkV I k) (ho : tkO k) (c : Int32) : wr_P l 3 mX4_takeSign [.ref 17, .int c] SH I L R (fun v s' I' L' R' => s' = SH ∧ L' = L ∧ R' = R ∧ (isS T k c = true → v = some (.int 1) ∧ tkV I' (tkS T k.2.2.1) ∧ frK I I') ∧ (¬ isS T k c = true → v = some (.int 0) ∧ I' = rfI I (rfF k) k)) := by
  obtain ⟨k1, k2, k3, k4⟩ := id hk
  obtain ⟨o1, o2, o3⟩ := id ho
  refine wv_pad 0 ?_
  show wr_V l 3 mX4_takeSign 0 [some (.ref 17), some (.int c)] [] SH I L R 0 0 _
  refine wv_aload_n dX4_takeSign_0 rfl ?_
  refine wv_iload_n dX4_takeSign_1 rfl ?_
  refine wv_v1e oX4_isSign kX4_177 dX4_takeSign_2 (by omega) (by first | assumption | rfl) ⟨rfl, by decide⟩ (Nat.le_of_ble_eq_true rfl) (Nat.le_of_ble_eq_true rfl) (cD_isSign hR T k hT hk ho c) ?_
  refine wv_if_ne (tgt := 13) dX4_takeSign_5 (by decide) (fun h5 => ?_) (fun h5 => ?_)
  · rw [if10, Decidable.not_not] at h5
    refine wv_aload_n dX4_takeSign_13 rfl ?_
    refine wv_v0 oX4_step kX4_44 dX4_takeSign_14 (by omega) (by first | assumption | rfl) ⟨rfl, by decide⟩ (Nat.le_of_ble_eq_true rfl) (Nat.le_of_ble_eq_true rfl) (cD_step hR T k.2.2.1 hT o3 k3) (fun v9 s9 J9 L9 R9 h9 => ?_)
    obtain ⟨rfl, rfl, rfl, rfl, hk9, hf9⟩ := h9
    refine wv_iconst (v := 1) dX4_takeSign_17 (by decide) ?_
    refine wv_zret rfl rfl dX4_takeSign_18 ?_
    exact ⟨rfl, rfl, rfl, fun _ => ⟨rfl, hk9, hf9⟩, fun z => absurd h5 z⟩
  · rw [if10] at h5
    refine wv_aload_n dX4_takeSign_8 rfl ?_
    refine wv_v0e oX4_refuse kX4_82 dX4_takeSign_9 (by omega) (by first | assumption | rfl) ⟨rfl, by decide⟩ (Nat.le_of_ble_eq_true rfl) (Nat.le_of_ble_eq_true rfl) (cD_refuse hR k hk ho) ?_
    refine wv_zret rfl rfl dX4_takeSign_12 ?_
    exact ⟨rfl, rfl, rfl, fun z => absurd z h5, fun _ => ⟨rfl, rfl⟩⟩

def rlH (T : TP) (k : TK) : Int32 := if isS T k 60 = true then 20003 else if isS T k 62 = true then 20004 else if isS T k 61 = true then 20005 else -1
set_option maxHeartbeats 4000000 in
set_option maxRecDepth 100000 in
theorem cD_rel {l : Launch} {I : wr_TI} {L : wr_TL} {R : wr_TR} (hR : wr_RC R) (T : TP) (k : TK) (hT : tpV I T) (hk : tkV I k) (ho : tkO k) : wr_E l 2 mX4_relationHere [.ref 17] SH I L R (some (.int (rlH T k))) I L R := by
  obtain ⟨k1, k2, k3, k4⟩ := id hk
  obtain ⟨o1, o2, o3⟩ := id ho
  refine wv_pad 0 ?_
  show wr_V l 2 mX4_relationHere 0 [some (.ref 17)] [] SH I L R 0 0 _
  refine wv_aload_n dX4_relationHere_0 rfl ?_
  refine wv_bipush (v := 60) dX4_relationHere_1 (by decide) ?_
  refine wv_v1e oX4_isSign kX4_177 dX4_relationHere_3 (by omega) (by first | assumption | rfl) ⟨rfl, by decide⟩ (Nat.le_of_ble_eq_true rfl) (Nat.le_of_ble_eq_true rfl) (cD_isSign hR T k hT hk ho _) ?_
  refine wv_if_eq (tgt := 13) dX4_relationHere_6 (by decide) (fun h6 => ?_) (fun h6 => ?_)
  · refine wv_aload_n dX4_relationHere_13 rfl ?_
    refine wv_bipush (v := 62) dX4_relationHere_14 (by decide) ?_
    refine wv_v1e oX4_isSign kX4_177 dX4_relationHere_16 (by omega) (by first | assumption | rfl) ⟨rfl, by decide⟩ (Nat.le_of_ble_eq_true rfl) (Nat.le_of_ble_eq_true rfl) (cD_isSign hR T k hT hk ho _) ?_
    refine wv_if_eq (tgt := 26) dX4_relationHere_19 (by decide) (fun h19 => ?_) (fun h19 => ?_)
    · refine wv_aload_n dX4_relationHere_26 rfl ?_
      refine wv_bipush (v := 61) dX4_relationHere_27 (by decide) ?_
      refine wv_v1e oX4_isSign kX4_177 dX4_relationHere_29 (by omega) (by first | assumption | rfl) ⟨rfl, by decide⟩ (Nat.le_of_ble_eq_true rfl) (Nat.le_of_ble_eq_true rfl) (cD_isSign hR T k hT hk ho _) ?_
      refine wv_if_eq (tgt := 41) dX4_relationHere_32 (by decide) (fun h32 => ?_) (fun h32 => ?_)
      · refine wv_iconst (v := (-1)) dX4_relationHere_41 (by decide) ?_
        refine wv_iret rfl dX4_relationHere_42 ?_
        refine ⟨?_, rfl, rfl, rfl, rfl⟩
        unfold rlH
        simp_all
      · refine wv_sipush (v := 20005) dX4_relationHere_35 (by decide) ?_
        refine wv_goto (tgt := 42) dX4_relationHere_38 (by decide) ?_
        refine wv_iret rfl dX4_relationHere_42 ?_
        refine ⟨?_, rfl, rfl, rfl, rfl⟩
        unfold rlH
        simp_all
    · refine wv_sipush (v := 20004) dX4_relationHere_22 (by decide) ?_
      refine wv_iret rfl dX4_relationHere_25 ?_
      refine ⟨?_, rfl, rfl, rfl, rfl⟩
      unfold rlH
      simp_all
  · refine wv_sipush (v := 20003) dX4_relationHere_9 (by decide) ?_
    refine wv_iret rfl dX4_relationHere_12 ?_
    refine ⟨?_, rfl, rfl, rfl, rfl⟩
    unfold rlH
    simp_all

