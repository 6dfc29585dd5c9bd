/-! class Law: what joins two values; the law's worth -/
def jn (p a b : Int32) : Int32 :=
  if p = 20001 then (if a ≠ 0 ∧ b ≠ 0 then 1 else 0)
  else if p = 20002 then (if a ≠ 0 ∨ b ≠ 0 then 1 else 0)
  else if p = 20003 then (if a < b then 1 else 0)
  else if p = 20004 then (if b < a then 1 else 0)
  else if p = 20005 then (if a = b then 1 else 0)
  else if p = 20006 then a + b
  else if p = 20007 then a - b
  else a * b
theorem pk_c1 {h : Nat} (h1 : 1 ≤ h) (h2 : h < 2 ^ 31) : (nI h - 1).toNatClampNeg = h - 1 := by
  rw [show (1 : Int32) = nI 1 from rfl, pk_sub h1]
  exact nI_clamp (by omega)
theorem pk_i1 {h n : Nat} (h1 : 1 ≤ h) (h2 : h - 1 < n) (h3 : n < 2 ^ 31) : vp_in (nI h - 1) n := by
  rw [show (1 : Int32) = nI 1 from rfl, pk_sub h1]
  exact vp_in_nI h2 h3
theorem pk_c2 {h : Nat} (h1 : 2 ≤ h) (h2 : h < 2 ^ 31) : (nI h - 2).toNatClampNeg = h - 2 := by
  rw [show (2 : Int32) = nI 2 from rfl, pk_sub h1]
  exact nI_clamp (by omega)
theorem pk_i2 {h n : Nat} (h1 : 2 ≤ h) (h2 : h - 2 < n) (h3 : n < 2 ^ 31) : vp_in (nI h - 2) n := by
  rw [show (2 : Int32) = nI 2 from rfl, pk_sub h1]
  exact vp_in_nI h2 h3
def ev1 (p : Int32) (lk : Nat → Int32) (S : (Nat → Int32) × Nat) : (Nat → Int32) × Nat :=
  if p < 20000 then (upd S.1 S.2 (if p < 10000 then p else lk (p - 10000).toNatClampNeg), S.2 + 1)
  else if p = 20000 then (upd S.1 (S.2 - 1) (if S.1 (S.2 - 1) = 0 then 1 else 0), S.2)
  else (upd S.1 (S.2 - 2) (jn p (S.1 (S.2 - 2)) (S.1 (S.2 - 1))), S.2 - 1)
def evl (c lk : Nat → Int32) : Nat → Nat → (Nat → Int32) × Nat → (Nat → Int32) × Nat
  | 0, _, S => S
  | k + 1, i, S => evl c lk k (i + 1) (ev1 (c i) lk S)
/-- a law's code is well made: from i on, k parts, with h values on the stack -/
def wfl (c : Nat → Int32) : Nat → Nat → Nat → Prop
  | 0, _, h => h = 1
  | k + 1, i, h => ∃ q : Nat, c i = nI q ∧ ((q < 10000 ∧ h < 30 ∧ wfl c k (i + 1) (h + 1)) ∨ (10000 ≤ q ∧ q < 10007 ∧ h < 30 ∧ wfl c k (i + 1) (h + 1)) ∨ (q = 20000 ∧ 1 ≤ h ∧ wfl c k (i + 1) h) ∨ (20001 ≤ q ∧ q ≤ 20008 ∧ 2 ≤ h ∧ wfl c k (i + 1) (h - 1)))
set_option maxHeartbeats 4000000 in
set_option maxRecDepth 100000 in
theorem cL_joined {l : Launch} {I : wr_TI} {L : wr_TL} {R : wr_TR} (p a b : Int32) : wr_E l 0 mX2_joined [.int p, .int a, .int b] SH I L R (some (.int (jn p a b))) I L R := by
  refine wv_pad 0 ?_
  show wr_V l 0 mX2_joined 0 [some (.int p), some (.int a), some (.int b)] [] SH I L R 0 0 _
  refine wv_iload_n dX2_joined_0 rfl ?_
  by_cases hv1_20001 : p = 20001
  · subst hv1_20001
    refine wv_tableIn (off := 43) (tgt := 44) dX2_joined_1 (by decide) (by decide) (by decide) (by decide) ?_
    refine wv_iload_n dX2_joined_44 rfl ?_
    refine wv_if_eq (tgt := 56) dX2_joined_45 (by decide) (fun h45 => ?_) (fun h45 => ?_)
    · refine wv_iconst (v := 0) dX2_joined_56 (by decide) ?_
      refine wv_iret rfl dX2_joined_57 ?_
      refine ⟨?_, rfl, rfl, rfl, rfl⟩
      simp_all [jn, Int32.not_lt, Int32.not_le]
    · refine wv_iload_n dX2_joined_48 rfl ?_
      refine wv_if_eq (tgt := 56) dX2_joined_49 (by decide) (fun h49 => ?_) (fun h49 => ?_)
      · refine wv_iconst (v := 0) dX2_joined_56 (by decide) ?_
        refine wv_iret rfl dX2_joined_57 ?_
        refine ⟨?_, rfl, rfl, rfl, rfl⟩
        simp_all [jn, Int32.not_lt, Int32.not_le]
      · refine wv_iconst (v := 1) dX2_joined_52 (by decide) ?_
        refine wv_goto (tgt := 57) dX2_joined_53 (by decide) ?_
        refine wv_iret rfl dX2_joined_57 ?_
        refine ⟨?_, rfl, rfl, rfl, rfl⟩
        simp_all [jn, Int32.not_lt, Int32.not_le]
  by_cases hv1_20002 : p = 20002
  · subst hv1_20002
    refine wv_tableIn (off := 57) (tgt := 58) dX2_joined_1 (by decide) (by decide) (by decide) (by decide) ?_
    refine wv_iload_n dX2_joined_58 rfl ?_
    refine wv_if_ne (tgt := 66) dX2_joined_59 (by decide) (fun h59 => ?_) (fun h59 => ?_)
    · refine wv_iconst (v := 1) dX2_joined_66 (by decide) ?_
      refine wv_goto (tgt := 71) dX2_joined_67 (by decide) ?_
      refine wv_iret rfl dX2_joined_71 ?_
      refine ⟨?_, rfl, rfl, rfl, rfl⟩
      simp_all [jn, Int32.not_lt, Int32.not_le]
    · refine wv_iload_n dX2_joined_62 rfl ?_
      refine wv_if_eq (tgt := 70) dX2_joined_63 (by decide) (fun h63 => ?_) (fun h63 => ?_)
      · refine wv_iconst (v := 0) dX2_joined_70 (by decide) ?_
        refine wv_iret rfl dX2_joined_71 ?_
        refine ⟨?_, rfl, rfl, rfl, rfl⟩
        simp_all [jn, Int32.not_lt, Int32.not_le]
      · refine wv_iconst (v := 1) dX2_joined_66 (by decide) ?_
        refine wv_goto (tgt := 71) dX2_joined_67 (by decide) ?_
        refine wv_iret rfl dX2_joined_71 ?_
        refine ⟨?_, rfl, rfl, rfl, rfl⟩
        simp_all [jn, Int32.not_lt, Int32.not_le]
  by_cases hv1_20003 : p = 20003
  · subst hv1_20003
    refine wv_tableIn (off := 71) (tgt := 72) dX2_joined_1 (by decide) (by decide) (by decide) (by decide) ?_
    refine wv_iload_n dX2_joined_72 rfl ?_
    refine wv_iload_n dX2_joined_73 rfl ?_
    refine wv_icmp_ge (tgt := 81) dX2_joined_74 (by decide) (fun h74 => ?_) (fun h74 => ?_)
    · refine wv_iconst (v := 0) dX2_joined_81 (by decide) ?_
      refine wv_iret rfl dX2_joined_82 ?_
      refine ⟨?_, rfl, rfl, rfl, rfl⟩
      simp_all [jn, Int32.not_lt, Int32.not_le]
    · refine wv_iconst (v := 1) dX2_joined_77 (by decide) ?_
      refine wv_goto (tgt := 82) dX2_joined_78 (by decide) ?_
      refine wv_iret rfl dX2_joined_82 ?_
      refine ⟨?_, rfl, rfl, rfl, rfl⟩
      simp_all [jn, Int32.not_lt, Int32.not_le]
  by_cases hv1_20004 : p = 20004
  · subst hv1_20004
    refine wv_tableIn (off := 82) (tgt := 83) dX2_joined_1 (by decide) (by decide) (by decide) (by decide) ?_
    refine wv_iload_n dX2_joined_83 rfl ?_
    refine wv_iload_n dX2_joined_84 rfl ?_
    refine wv_icmp_le (tgt := 92) dX2_joined_85 (by decide) (fun h85 => ?_) (fun h85 => ?_)
    · refine wv_iconst (v := 0) dX2_joined_92 (by decide) ?_
      refine wv_iret rfl dX2_joined_93 ?_
      refine ⟨?_, rfl, rfl, rfl, rfl⟩
      simp_all [jn, Int32.not_lt, Int32.not_le]
    · refine wv_iconst (v := 1) dX2_joined_88 (by decide) ?_
      refine wv_goto (tgt := 93) dX2_joined_89 (by decide) ?_
      refine wv_iret rfl dX2_joined_93 ?_
      refine ⟨?_, rfl, rfl, rfl, rfl⟩
      simp_all [jn, Int32.not_lt, Int32.not_le]
  by_cases hv1_20005 : p = 20005
  · subst hv1_20005
    refine wv_tableIn (off := 93) (tgt := 94) dX2_joined_1 (by decide) (by decide) (by decide) (by decide) ?_
    refine wv_iload_n dX2_joined_94 rfl ?_
    refine wv_iload_n dX2_joined_95 rfl ?_
    refine wv_icmp_ne (tgt := 103) dX2_joined_96 (by decide) (fun h96 => ?_) (fun h96 => ?_)
    · refine wv_iconst (v := 0) dX2_joined_103 (by decide) ?_
      refine wv_iret rfl dX2_joined_104 ?_
      refine ⟨?_, rfl, rfl, rfl, rfl⟩
      simp_all [jn, Int32.not_lt, Int32.not_le]
    · refine wv_iconst (v := 1) dX2_joined_99 (by decide) ?_
      refine wv_goto (tgt := 104) dX2_joined_100 (by decide) ?_
      refine wv_iret rfl dX2_joined_104 ?_
      refine ⟨?_, rfl, rfl, rfl, rfl⟩
      simp_all [jn, Int32.not_lt, Int32.not_le]
  by_cases hv1_20006 : p = 20006
  · subst hv1_20006
    refine wv_tableIn (off := 104) (tgt := 105) dX2_joined_1 (by decide) (by decide) (by decide) (by decide) ?_
    refine wv_iload_n dX2_joined_105 rfl ?_
    refine wv_iload_n dX2_joined_106 rfl ?_
    refine wv_iadd dX2_joined_107 ?_
    refine wv_iret rfl dX2_joined_108 ?_
    refine ⟨?_, rfl, rfl, rfl, rfl⟩
    simp_all [jn, Int32.not_lt, Int32.not_le]
  by_cases hv1_20007 : p = 20007
  · subst hv1_20007
    refine wv_tableIn (off := 108) (tgt := 109) dX2_joined_1 (by decide) (by decide) (by decide) (by decide) ?_
    refine wv_iload_n dX2_joined_109 rfl ?_
    refine wv_iload_n dX2_joined_110 rfl ?_
    refine wv_isub dX2_joined_111 ?_
    refine wv_iret rfl dX2_joined_112 ?_
    refine ⟨?_, rfl, rfl, rfl, rfl⟩
    simp_all [jn, Int32.not_lt, Int32.not_le]
  refine wv_tableOut (tgt := 113) dX2_joined_1 (by have q0 : (p).toInt ≠ 20001 := wr_ne hv1_20001; have q1 : (p).toInt ≠ 20002 := wr_ne hv1_20002; have q2 : (p).toInt ≠ 20003 := wr_ne hv1_20003; have q3 : (p).toInt ≠ 20004 := wr_ne hv1_20004; have q4 : (p).toInt ≠ 20005 := wr_ne hv1_20005; have q5 : (p).toInt ≠ 20006 := wr_ne hv1_20006; have q6 : (p).toInt ≠ 20007 := wr_ne hv1_20007; omega) (by decide) ?_
  refine wv_iload_n dX2_joined_113 rfl ?_
  refine wv_iload_n dX2_joined_114 rfl ?_
  refine wv_imul dX2_joined_115 ?_
  refine wv_iret rfl dX2_joined_116 ?_
  refine ⟨?_, rfl, rfl, rfl, rfl⟩
  simp_all [jn, Int32.not_lt, Int32.not_le]

set_option maxHeartbeats 4000000 in
set_option maxRecDepth 100000 in
theorem cL_looked {l : Launch} {I : wr_TI} {L : wr_TL} {R : wr_TR} (k n : Nat) (x : Int32) (hs : SH[k]? = some (.inl (0, n))) (hx : vp_in x n) (hn : n < 2 ^ 31) : wr_E l 0 mX2_lookedUp [.ref k, .int x] SH I L R (some (.int (I k x.toNatClampNeg))) I L R := by
  have hx2 := vp_in_iff.mp hx
  refine wv_pad 0 ?_
  show wr_V l 0 mX2_lookedUp 0 [some (.ref k), some (.int x)] [] SH I L R 0 0 _
  refine wv_iload_n dX2_lookedUp_0 rfl ?_
  refine wv_if_lt (tgt := 16) dX2_lookedUp_1 (by decide) (fun h1 => absurd h1 (by rw [Int32.not_lt, Int32.le_iff_toInt_le]; simpa using hx2.1)) (fun h1 => ?_)
  refine wv_iload_n dX2_lookedUp_4 rfl ?_
  refine wv_aload_n dX2_lookedUp_5 rfl ?_
  refine wv_alen dX2_lookedUp_6 (t := 0) (by decide) (by first | assumption | rfl) ?_
  refine wv_icmp_ge (tgt := 16) dX2_lookedUp_7 (by decide) (fun h7 => absurd h7 (by rw [Int32.not_le, Int32.lt_iff_toInt_lt, show Int32.ofNat n = nI n from rfl, nI_toInt hn]; exact hx2.2)) (fun h7 => ?_)
  refine wv_aload_n dX2_lookedUp_10 rfl ?_
  refine wv_iload_n dX2_lookedUp_11 rfl ?_
  refine wv_iald dX2_lookedUp_12 (by first | assumption | rfl) (by assumption) ?_
  refine wv_goto (tgt := 17) dX2_lookedUp_13 (by decide) ?_
  refine wv_iret rfl dX2_lookedUp_17 ?_
  exact ⟨rfl, rfl, rfl, rfl, rfl⟩

set_option maxHeartbeats 4000000 in
set_option maxRecDepth 100000 in
theorem cL_worth {l : Launch} {I0 : wr_TI} {L : wr_TL} {R : wr_TR} (q kk len : Nat) (hs : SH[q]? = some (.inr 2)) (hs1 : SH[q + 1]? = some (.inl (0, 260))) (hs2 : SH[q + 2]? = some (.inl (0, 30))) (hk : SH[kk]? = some (.inl (0, 7))) (hr1 : R q 0 = q + 1 + 1) (hr2 : R q 1 = q + 2 + 1) (hkk : kk ≠ q + 2) (hl : len ≤ 260) (hlen : I0 q 2 = nI len) (hw : wfl (I0 (q + 1)) len 0 0) :
    wr_P l 1 mX2_worth [.ref q, .ref kk] SH I0 L R (fun v s' I' L' R' => v = some (.int ((evl (I0 (q + 1)) (I0 kk) len 0 (fun _ => 0, 0)).1 0)) ∧ s' = SH ∧ L' = L ∧ R' = R ∧ ∀ a, a ≠ q + 2 → I' a = I0 a) := by
  have lp : ∀ (k i h : Nat) (I : wr_TI) (S : Nat → Int32), i + k = len → wfl (I0 (q + 1)) k i h → (∀ a, a ≠ q + 2 → I a = I0 a) → (∀ b, b < h → I (q + 2) b = S b) → h ≤ 30 → wr_V l 1 mX2_worth 4 [some (.ref q), some (.ref kk), some (.int (nI h)), some (.int (nI i)), none] [] SH I L R 0 0 (fun v s' I' L' R' => v = some (.int ((evl (I0 (q + 1)) (I0 kk) k i (S, h)).1 0)) ∧ s' = SH ∧ L' = L ∧ R' = R ∧ ∀ a, a ≠ q + 2 → I' a = I0 a) := by
    intro k
    induction k with
    | zero =>
      intro i h I S hi hw hf hS hh
      have h1 : h = 1 := hw
      refine wv_iload_n dX2_worth_4 rfl ?_
      refine wv_aload_n dX2_worth_5 rfl ?_
      refine wv_getI fX2_18 dX2_worth_6 rfl (by first | assumption | rfl) ?_
      refine wv_icmp_ge (tgt := 164) dX2_worth_9 (by decide) (fun h9 => ?_) (fun h9 => absurd (by rw [hf q (by omega), hlen]; exact nI_le (by omega) (by omega)) h9)
      refine wv_aload_n dX2_worth_164 rfl ?_
      refine wv_getR fX2_15 dX2_worth_165 rfl (by first | assumption | rfl) (by first | exact hR _ _ _ rfl | assumption) ?_
      refine wv_iconst (v := 0) dX2_worth_168 (by decide) ?_
      refine wv_ialdK (k := 0) dX2_worth_169 (by first | assumption | rfl) (by decide) (by unfold vp_in; decide) ?_
      refine wv_iret rfl dX2_worth_170 ?_
      refine ⟨?_, rfl, rfl, rfl, hf⟩
      rw [hS 0 (by omega)]
      rfl
    | succ k ih =>
      intro i h I S hi hw hf hS hh
      obtain ⟨z, hz, hc⟩ := hw
      have hc1 : I (q + 1) i = nI z := by rw [hf (q + 1) (by omega), hz]
      have hstep : ∀ (I' : wr_TI) (S' : Nat → Int32) (h' : Nat), ev1 (I0 (q + 1) i) (I0 kk) (S, h) = (S', h') → wfl (I0 (q + 1)) k (i + 1) h' → (∀ a, a ≠ q + 2 → I' a = I0 a) → (∀ b, b < h' → I' (q + 2) b = S' b) → h' ≤ 30 → wr_V l 1 mX2_worth 4 [some (.ref q), some (.ref kk), some (.int (nI h')), some (.int (nI (i + 1))), none] [] SH I' L R 0 0 (fun v s' I' L' R' => v = some (.int ((evl (I0 (q + 1)) (I0 kk) (k + 1) i (S, h)).1 0)) ∧ s' = SH ∧ L' = L ∧ R' = R ∧ ∀ a, a ≠ q + 2 → I' a = I0 a) := by
        intro I' S' h' he hw' hf' hS' hh'
        have := ih (i + 1) h' I' S' (by omega) hw' hf' hS' hh'
        simp only [evl]
        rw [he]
        exact this
      have hfu : ∀ (k' : Nat) (x : Int32), ∀ a, a ≠ q + 2 → wr_uI I (q + 2) k' x a = I0 a := fun k' x a ha => by rw [wr_uI_ne ha]; exact hf a ha
      rcases hc with ⟨c1, c2, c3⟩ | ⟨c1, c1b, c2, c3⟩ | ⟨c1, c2, c3⟩ | ⟨c1, c1b, c2, c3⟩
      · have e : ev1 (I0 (q + 1) i) (I0 kk) (S, h) = (upd S h (nI z), h + 1) := by
          rw [hz]; unfold ev1; rw [if_pos (show nI z < 20000 from nI_lt (b := 20000) (by omega) (by omega)), if_pos (show nI z < 10000 from nI_lt (b := 10000) (by omega) (by omega))]
        refine wv_iload_n dX2_worth_4 rfl ?_
        refine wv_aload_n dX2_worth_5 rfl ?_
        refine wv_getI fX2_18 dX2_worth_6 rfl (by first | assumption | rfl) ?_
        refine wv_icmp_ge (tgt := 164) dX2_worth_9 (by decide) (fun h9 => absurd h9 (by rw [hf q (by omega), hlen]; exact nI_ge (by omega) (by omega))) (fun h9 => ?_)
        refine wv_iload_n dX2_worth_12 rfl ?_
        refine wv_aload_n dX2_worth_13 rfl ?_
        refine wv_getR fX2_9 dX2_worth_14 rfl (by first | assumption | rfl) (by first | exact hR _ _ _ rfl | assumption) ?_
        refine wv_alen dX2_worth_17 (t := 0) (by decide) (by first | assumption | rfl) ?_
        refine wv_icmp_ge (tgt := 164) dX2_worth_18 (by decide) (fun h18 => absurd h18 (nI_ge (b := 260) (by omega) (by omega))) (fun h18 => ?_)
        refine wv_aload_n dX2_worth_21 rfl ?_
        refine wv_getR fX2_9 dX2_worth_22 rfl (by first | assumption | rfl) (by first | exact hR _ _ _ rfl | assumption) ?_
        refine wv_iload_n dX2_worth_25 rfl ?_
        refine wv_ialdN dX2_worth_26 (by first | assumption | rfl) (by omega) (by decide) ?_
        rw [hc1]
        refine wv_istore dX2_worth_27 (by decide) ?_
        refine wv_iload dX2_worth_29 rfl ?_
        refine wv_sipush (v := 20000) dX2_worth_31 (by decide) ?_
        refine wv_icmp_ge (tgt := 81) dX2_worth_34 (by decide) (fun h34 => absurd h34 (nI_ge (b := 20000) (by omega) (by omega))) (fun h34 => ?_)
        refine wv_iload_n dX2_worth_37 rfl ?_
        refine wv_aload_n dX2_worth_38 rfl ?_
        refine wv_getR fX2_15 dX2_worth_39 rfl (by first | assumption | rfl) (by first | exact hR _ _ _ rfl | assumption) ?_
        refine wv_alen dX2_worth_42 (t := 0) (by decide) (by first | assumption | rfl) ?_
        refine wv_icmp_ge (tgt := 158) dX2_worth_43 (by decide) (fun h43 => absurd h43 (nI_ge (b := 30) (by omega) (by omega))) (fun h43 => ?_)
        refine wv_aload_n dX2_worth_46 rfl ?_
        refine wv_getR fX2_15 dX2_worth_47 rfl (by first | assumption | rfl) (by first | exact hR _ _ _ rfl | assumption) ?_
        refine wv_iload_n dX2_worth_50 rfl ?_
        refine wv_iload dX2_worth_51 rfl ?_
        refine wv_sipush (v := 10000) dX2_worth_53 (by decide) ?_
        refine wv_icmp_ge (tgt := 64) dX2_worth_56 (by decide) (fun h56 => absurd h56 (nI_ge (b := 10000) (by omega) (by omega))) (fun h56 => ?_)
        refine wv_iload dX2_worth_59 rfl ?_
        refine wv_goto (tgt := 74) dX2_worth_61 (by decide) ?_
        refine wv_iastK (k := h) dX2_worth_74 (by first | assumption | rfl) (nI_clamp (by omega)) (vp_in_nI (by omega) (by decide)) ?_
        refine wv_iinc (v := nI (h + 1)) dX2_worth_75 rfl (nI_1 (h)) (by decide) ?_
        refine wv_goto (tgt := 158) dX2_worth_78 (by decide) ?_
        refine wv_iinc (v := nI (i + 1)) dX2_worth_158 rfl (nI_1 (i)) (by decide) ?_
        refine wv_goto (tgt := 4) dX2_worth_161 (by decide) ?_
        exact wv_le (by simp [wr_leq, wr_s1, wr_s2, wr_wide]) (hstep _ _ _ e c3 (hfu h (nI z)) (fun b hb => by simp only [wr_uI, upd]; by_cases hbh : b = h <;> simp [hbh]; exact hS b (by omega)) (by omega))
      · have ez : nI z - 10000 = nI (z - 10000) := pk_sub (b := 10000) (by omega)
        have hx : vp_in (nI z - 10000) 7 := by rw [ez]; exact vp_in_nI (by omega) (by decide)
        have e : ev1 (I0 (q + 1) i) (I0 kk) (S, h) = (upd S h (I0 kk (nI z - 10000).toNatClampNeg), h + 1) := by
          rw [hz]; unfold ev1; rw [if_pos (show nI z < 20000 from nI_lt (b := 20000) (by omega) (by omega)), if_neg (show ¬ nI z < 10000 from nI_nlt (b := 10000) (by omega) (by omega))]
        refine wv_iload_n dX2_worth_4 rfl ?_
        refine wv_aload_n dX2_worth_5 rfl ?_
        refine wv_getI fX2_18 dX2_worth_6 rfl (by first | assumption | rfl) ?_
        refine wv_icmp_ge (tgt := 164) dX2_worth_9 (by decide) (fun h9 => absurd h9 (by rw [hf q (by omega), hlen]; exact nI_ge (by omega) (by omega))) (fun h9 => ?_)
        refine wv_iload_n dX2_worth_12 rfl ?_
        refine wv_aload_n dX2_worth_13 rfl ?_
        refine wv_getR fX2_9 dX2_worth_14 rfl (by first | assumption | rfl) (by first | exact hR _ _ _ rfl | assumption) ?_
        refine wv_alen dX2_worth_17 (t := 0) (by decide) (by first | assumption | rfl) ?_
        refine wv_icmp_ge (tgt := 164) dX2_worth_18 (by decide) (fun h18 => absurd h18 (nI_ge (b := 260) (by omega) (by omega))) (fun h18 => ?_)
        refine wv_aload_n dX2_worth_21 rfl ?_
        refine wv_getR fX2_9 dX2_worth_22 rfl (by first | assumption | rfl) (by first | exact hR _ _ _ rfl | assumption) ?_
        refine wv_iload_n dX2_worth_25 rfl ?_
        refine wv_ialdN dX2_worth_26 (by first | assumption | rfl) (by omega) (by decide) ?_
        rw [hc1]
        refine wv_istore dX2_worth_27 (by decide) ?_
        refine wv_iload dX2_worth_29 rfl ?_
        refine wv_sipush (v := 20000) dX2_worth_31 (by decide) ?_
        refine wv_icmp_ge (tgt := 81) dX2_worth_34 (by decide) (fun h34 => absurd h34 (nI_ge (b := 20000) (by omega) (by omega))) (fun h34 => ?_)
        refine wv_iload_n dX2_worth_37 rfl ?_
        refine wv_aload_n dX2_worth_38 rfl ?_
        refine wv_getR fX2_15 dX2_worth_39 rfl (by first | assumption | rfl) (by first | exact hR _ _ _ rfl | assumption) ?_
        refine wv_alen dX2_worth_42 (t := 0) (by decide) (by first | assumption | rfl) ?_
        refine wv_icmp_ge (tgt := 158) dX2_worth_43 (by decide) (fun h43 => absurd h43 (nI_ge (b := 30) (by omega) (by omega))) (fun h43 => ?_)
        refine wv_aload_n dX2_worth_46 rfl ?_
        refine wv_getR fX2_15 dX2_worth_47 rfl (by first | assumption | rfl) (by first | exact hR _ _ _ rfl | assumption) ?_
        refine wv_iload_n dX2_worth_50 rfl ?_
        refine wv_iload dX2_worth_51 rfl ?_
        refine wv_sipush (v := 10000) dX2_worth_53 (by decide) ?_
        refine wv_icmp_ge (tgt := 64) dX2_worth_56 (by decide) (fun h56 => ?_) (fun h56 => absurd (nI_le (a := 10000) (by omega) (by omega)) h56)
        refine wv_aload_n dX2_worth_64 rfl ?_
        refine wv_iload dX2_worth_65 rfl ?_
        refine wv_sipush (v := 10000) dX2_worth_67 (by decide) ?_
        refine wv_isub dX2_worth_70 ?_
        refine wv_s2e oX2_lookedUp kX2_29 dX2_worth_71 (by omega) (Nat.le_of_ble_eq_true rfl) (Nat.le_of_ble_eq_true rfl) (cL_looked _ 7 _ hk hx (by decide)) ?_
        rw [hf kk hkk]
        refine wv_iastK (k := h) dX2_worth_74 (by first | assumption | rfl) (nI_clamp (by omega)) (vp_in_nI (by omega) (by decide)) ?_
        refine wv_iinc (v := nI (h + 1)) dX2_worth_75 rfl (nI_1 (h)) (by decide) ?_
        refine wv_goto (tgt := 158) dX2_worth_78 (by decide) ?_
        refine wv_iinc (v := nI (i + 1)) dX2_worth_158 rfl (nI_1 (i)) (by decide) ?_
        refine wv_goto (tgt := 4) dX2_worth_161 (by decide) ?_
        exact wv_le (by simp [wr_leq, wr_s1, wr_s2, wr_wide]) (hstep _ _ _ e c3 (hfu h _) (fun b hb => by simp only [wr_uI, upd]; by_cases hbh : b = h <;> simp [hbh]; exact hS b (by omega)) (by omega))
      · subst c1
        have e : ev1 (I0 (q + 1) i) (I0 kk) (S, h) = (upd S (h - 1) (if S (h - 1) = 0 then 1 else 0), h) := by
          rw [hz]; unfold ev1; rw [if_neg (show ¬ nI 20000 < 20000 by decide), if_pos (show nI 20000 = 20000 from rfl)]
        have hS1 := hS (h - 1) (by omega)
        refine wv_iload_n dX2_worth_4 rfl ?_
        refine wv_aload_n dX2_worth_5 rfl ?_
        refine wv_getI fX2_18 dX2_worth_6 rfl (by first | assumption | rfl) ?_
        refine wv_icmp_ge (tgt := 164) dX2_worth_9 (by decide) (fun h9 => absurd h9 (by rw [hf q (by omega), hlen]; exact nI_ge (by omega) (by omega))) (fun h9 => ?_)
        refine wv_iload_n dX2_worth_12 rfl ?_
        refine wv_aload_n dX2_worth_13 rfl ?_
        refine wv_getR fX2_9 dX2_worth_14 rfl (by first | assumption | rfl) (by first | exact hR _ _ _ rfl | assumption) ?_
        refine wv_alen dX2_worth_17 (t := 0) (by decide) (by first | assumption | rfl) ?_
        refine wv_icmp_ge (tgt := 164) dX2_worth_18 (by decide) (fun h18 => absurd h18 (nI_ge (b := 260) (by omega) (by omega))) (fun h18 => ?_)
        refine wv_aload_n dX2_worth_21 rfl ?_
        refine wv_getR fX2_9 dX2_worth_22 rfl (by first | assumption | rfl) (by first | exact hR _ _ _ rfl | assumption) ?_
        refine wv_iload_n dX2_worth_25 rfl ?_
        refine wv_ialdN dX2_worth_26 (by first | assumption | rfl) (by omega) (by decide) ?_
        rw [hc1]
        refine wv_istore dX2_worth_27 (by decide) ?_
        refine wv_iload dX2_worth_29 rfl ?_
        refine wv_sipush (v := 20000) dX2_worth_31 (by decide) ?_
        refine wv_icmp_ge (tgt := 81) dX2_worth_34 (by decide) (fun h34 => ?_) (fun h34 => absurd (nI_le (a := 20000) (b := 20000) (by omega) (by omega)) h34)
        refine wv_iload dX2_worth_81 rfl ?_
        refine wv_sipush (v := 20000) dX2_worth_83 (by decide) ?_
        refine wv_icmp_ne (tgt := 121) dX2_worth_86 (by decide) (fun h86 => absurd (show nI 20000 = 20000 from rfl) h86) (fun h86 => ?_)
        refine wv_iload_n dX2_worth_89 rfl ?_
        refine wv_iconst (v := 1) dX2_worth_90 (by decide) ?_
        refine wv_icmp_lt (tgt := 158) dX2_worth_91 (by decide) (fun h91 => absurd h91 (nI_nlt (b := 1) (by omega) (by omega))) (fun h91 => ?_)
        refine wv_aload_n dX2_worth_94 rfl ?_
        refine wv_getR fX2_15 dX2_worth_95 rfl (by first | assumption | rfl) (by first | exact hR _ _ _ rfl | assumption) ?_
        refine wv_iload_n dX2_worth_98 rfl ?_
        refine wv_iconst (v := 1) dX2_worth_99 (by decide) ?_
        refine wv_isub dX2_worth_100 ?_
        refine wv_aload_n dX2_worth_101 rfl ?_
        refine wv_getR fX2_15 dX2_worth_102 rfl (by first | assumption | rfl) (by first | exact hR _ _ _ rfl | assumption) ?_
        refine wv_iload_n dX2_worth_105 rfl ?_
        refine wv_iconst (v := 1) dX2_worth_106 (by decide) ?_
        refine wv_isub dX2_worth_107 ?_
        refine wv_ialdK (k := h - 1) dX2_worth_108 (by first | assumption | rfl) (pk_c1 (by omega) (by omega)) (pk_i1 (by omega) (by omega) (by decide)) ?_
        refine wv_if_ne (tgt := 116) dX2_worth_109 (by decide) (fun h109 => ?_) (fun h109 => ?_)
        · have h109s : ¬ S (h - 1) = 0 := by rw [← hS1]; exact h109
          refine wv_iconst (v := 0) dX2_worth_116 (by decide) ?_
          refine wv_iastK (k := h - 1) dX2_worth_117 (by first | assumption | rfl) (pk_c1 (by omega) (by omega)) (pk_i1 (by omega) (by omega) (by decide)) ?_
          refine wv_goto (tgt := 158) dX2_worth_118 (by decide) ?_
          refine wv_iinc (v := nI (i + 1)) dX2_worth_158 rfl (nI_1 (i)) (by decide) ?_
          refine wv_goto (tgt := 4) dX2_worth_161 (by decide) ?_
          first | rw [if_pos h109s] at e | rw [if_neg h109s] at e
          exact wv_le (by simp [wr_leq, wr_s1, wr_s2, wr_wide]) (hstep _ _ _ e c3 (hfu (h - 1) _) (fun b hb => by simp only [wr_uI, upd]; by_cases hbh : b = h - 1 <;> simp [hbh]; exact hS b (by omega)) (by omega))
        · have h109s : S (h - 1) = 0 := by rw [← hS1]; exact h109
          refine wv_iconst (v := 1) dX2_worth_112 (by decide) ?_
          refine wv_goto (tgt := 117) dX2_worth_113 (by decide) ?_
          refine wv_iastK (k := h - 1) dX2_worth_117 (by first | assumption | rfl) (pk_c1 (by omega) (by omega)) (pk_i1 (by omega) (by omega) (by decide)) ?_
          refine wv_goto (tgt := 158) dX2_worth_118 (by decide) ?_
          refine wv_iinc (v := nI (i + 1)) dX2_worth_158 rfl (nI_1 (i)) (by decide) ?_
          refine wv_goto (tgt := 4) dX2_worth_161 (by decide) ?_
          first | rw [if_pos h109s] at e | rw [if_neg h109s] at e
          exact wv_le (by simp [wr_leq, wr_s1, wr_s2, wr_wide]) (hstep _ _ _ e c3 (hfu (h - 1) _) (fun b hb => by simp only [wr_uI, upd]; by_cases hbh : b = h - 1 <;> simp [hbh]; exact hS b (by omega)) (by omega))
      · have e : ev1 (I0 (q + 1) i) (I0 kk) (S, h) = (upd S (h - 2) (jn (nI z) (S (h - 2)) (S (h - 1))), h - 1) := by
          rw [hz]; unfold ev1; rw [if_neg (show ¬ nI z < 20000 from nI_nlt (b := 20000) (by omega) (by omega)), if_neg (show ¬ nI z = 20000 from fun q => by have := (nI_eq (b := 20000) (by omega) (by omega)).mp q; omega)]
        have hS1 := hS (h - 1) (by omega)
        have hS2 := hS (h - 2) (by omega)
        refine wv_iload_n dX2_worth_4 rfl ?_
        refine wv_aload_n dX2_worth_5 rfl ?_
        refine wv_getI fX2_18 dX2_worth_6 rfl (by first | assumption | rfl) ?_
        refine wv_icmp_ge (tgt := 164) dX2_worth_9 (by decide) (fun h9 => absurd h9 (by rw [hf q (by omega), hlen]; exact nI_ge (by omega) (by omega))) (fun h9 => ?_)
        refine wv_iload_n dX2_worth_12 rfl ?_
        refine wv_aload_n dX2_worth_13 rfl ?_
        refine wv_getR fX2_9 dX2_worth_14 rfl (by first | assumption | rfl) (by first | exact hR _ _ _ rfl | assumption) ?_
        refine wv_alen dX2_worth_17 (t := 0) (by decide) (by first | assumption | rfl) ?_
        refine wv_icmp_ge (tgt := 164) dX2_worth_18 (by decide) (fun h18 => absurd h18 (nI_ge (b := 260) (by omega) (by omega))) (fun h18 => ?_)
        refine wv_aload_n dX2_worth_21 rfl ?_
        refine wv_getR fX2_9 dX2_worth_22 rfl (by first | assumption | rfl) (by first | exact hR _ _ _ rfl | assumption) ?_
        refine wv_iload_n dX2_worth_25 rfl ?_
        refine wv_ialdN dX2_worth_26 (by first | assumption | rfl) (by omega) (by decide) ?_
        rw [hc1]
        refine wv_istore dX2_worth_27 (by decide) ?_
        refine wv_iload dX2_worth_29 rfl ?_
        refine wv_sipush (v := 20000) dX2_worth_31 (by decide) ?_
        refine wv_icmp_ge (tgt := 81) dX2_worth_34 (by decide) (fun h34 => ?_) (fun h34 => absurd (nI_le (a := 20000) (by omega) (by omega)) h34)
        refine wv_iload dX2_worth_81 rfl ?_
        refine wv_sipush (v := 20000) dX2_worth_83 (by decide) ?_
        refine wv_icmp_ne (tgt := 121) dX2_worth_86 (by decide) (fun h86 => ?_) (fun h86 => absurd h86 (fun q => by have := (nI_eq (b := 20000) (by omega) (by omega)).mp q; omega))
        refine wv_iload_n dX2_worth_121 rfl ?_
        refine wv_iconst (v := 2) dX2_worth_122 (by decide) ?_
        refine wv_icmp_lt (tgt := 158) dX2_worth_123 (by decide) (fun h123 => absurd h123 (nI_nlt (b := 2) (by omega) (by omega))) (fun h123 => ?_)
        refine wv_aload_n dX2_worth_126 rfl ?_
        refine wv_getR fX2_15 dX2_worth_127 rfl (by first | assumption | rfl) (by first | exact hR _ _ _ rfl | assumption) ?_
        refine wv_iload_n dX2_worth_130 rfl ?_
        refine wv_iconst (v := 2) dX2_worth_131 (by decide) ?_
        refine wv_isub dX2_worth_132 ?_
        refine wv_iload dX2_worth_133 rfl ?_
        refine wv_aload_n dX2_worth_135 rfl ?_
        refine wv_getR fX2_15 dX2_worth_136 rfl (by first | assumption | rfl) (by first | exact hR _ _ _ rfl | assumption) ?_
        refine wv_iload_n dX2_worth_139 rfl ?_
        refine wv_iconst (v := 2) dX2_worth_140 (by decide) ?_
        refine wv_isub dX2_worth_141 ?_
        refine wv_ialdK (k := h - 2) dX2_worth_142 (by first | assumption | rfl) (pk_c2 (by omega) (by omega)) (pk_i2 (by omega) (by omega) (by decide)) ?_
        refine wv_aload_n dX2_worth_143 rfl ?_
        refine wv_getR fX2_15 dX2_worth_144 rfl (by first | assumption | rfl) (by first | exact hR _ _ _ rfl | assumption) ?_
        refine wv_iload_n dX2_worth_147 rfl ?_
        refine wv_iconst (v := 1) dX2_worth_148 (by decide) ?_
        refine wv_isub dX2_worth_149 ?_
        refine wv_ialdK (k := h - 1) dX2_worth_150 (by first | assumption | rfl) (pk_c1 (by omega) (by omega)) (pk_i1 (by omega) (by omega) (by decide)) ?_
        refine wv_s3e oX2_joined kX2_33 dX2_worth_151 (by omega) (Nat.le_of_ble_eq_true rfl) (Nat.le_of_ble_eq_true rfl) (cL_joined _ _ _) ?_
        rw [hS1, hS2]
        refine wv_iastK (k := h - 2) dX2_worth_154 (by first | assumption | rfl) (pk_c2 (by omega) (by omega)) (pk_i2 (by omega) (by omega) (by decide)) ?_
        refine wv_iinc (v := nI (h - 1)) dX2_worth_155 rfl (by obtain ⟨h9, rfl⟩ : ∃ x, h = x + 1 := ⟨h - 1, by omega⟩; exact pk_m1 h9) (by decide) ?_
        refine wv_iinc (v := nI (i + 1)) dX2_worth_158 rfl (nI_1 (i)) (by decide) ?_
        refine wv_goto (tgt := 4) dX2_worth_161 (by decide) ?_
        exact wv_le (by simp [wr_leq, wr_s1, wr_s2, wr_wide]) (hstep _ _ _ e c3 (hfu (h - 2) _) (fun b hb => by simp only [wr_uI, upd]; by_cases hbh : b = h - 2 <;> simp [hbh]; exact hS b (by omega)) (by omega))
  refine wv_pad 3 ?_
  show wr_V l 1 mX2_worth 0 [some (.ref q), some (.ref kk), none, none, none] [] SH I0 L R 0 0 _
  refine wv_iconst (v := nI 0) dX2_worth_0 rfl ?_
  refine wv_istore_k (i := 2) dX2_worth_1 rfl (by decide) ?_
  refine wv_iconst (v := nI 0) dX2_worth_2 rfl ?_
  refine wv_istore_k (i := 3) dX2_worth_3 rfl (by decide) ?_
  exact lp len 0 0 I0 (fun _ => 0) (by omega) hw (fun _ _ => rfl) (fun b hb => by omega) (by omega)

