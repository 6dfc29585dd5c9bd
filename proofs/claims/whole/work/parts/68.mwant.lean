/-! the model: words, numbers, faults -/
def tkG (T : TP) (k : TK) : Prop := tkO k ∧ (k.1 = 3 → cSg (bt T k.2.1) = true) ∧ (k.1 = 1 → k.2.2.1 - k.2.1 ≤ 8 ∧ (∀ j, j < k.2.2.1 - k.2.1 → cLt (bt T (k.2.1 + j)) = true) ∧ cLt (bt T k.2.2.1) = false) ∧ (¬ k.1 = 0 → k.2.1 < k.2.2.1) ∧ (k.1 = 2 → cLt (bt T k.2.1) = false)
theorem tkS_g {T : TP} {p : Nat} (hT : T.1 ≤ 800) (hp : p ≤ 800) : tkG T (tkS T p) := by
  refine ⟨tkS_o hT hp, ?_⟩
  unfold tkS
  have ha := rnE_ge cB T (800 - p) p
  generalize rnE cB T (800 - p) p = a at ha
  have h1 := rnE_ge cLt T (800 - a) a
  have h2 := rnE_ge cDg T (800 - a) a
  unfold tkA
  by_cases h48 : bt T a = -1
  · rw [if_pos h48]
    exact ⟨fun z => by simp at z, fun z => by simp at z, fun z => absurd rfl z, fun z => by simp at z⟩
  · rw [if_neg h48]
    have hlt := bt_lt h48 hT (by omega)
    by_cases h68 : cLt (bt T a) = true
    · rw [if_pos h68]
      have hgt : a < rnE cLt T (800 - a) a := by
        apply Nat.lt_of_not_le
        intro z
        have e : rnE cLt T (800 - a) a = a := by omega
        have := rnE_end (p := cLt) hT (by decide) (800 - a) a (by omega)
        rw [e, h68] at this
        cases this
      refine ⟨fun z => ?_, fun z => ⟨?_, fun j hj => rnE_all (800 - a) a _ (by simp only; omega) (by simp only at hj ⊢; omega), rnE_end hT (by decide) (800 - a) a (by omega)⟩, fun _ => hgt, fun z => ?_⟩
      · simp only at z; split at z <;> omega
      · simp only at z ⊢
        split at z
        · omega
        · omega
      · simp only at z; split at z <;> omega
    · rw [if_neg h68]
      by_cases h82 : cDg (bt T a) = true
      · rw [if_pos h82]
        have hgt : a < rnE cDg T (800 - a) a := by
          apply Nat.lt_of_not_le
          intro z
          have e : rnE cDg T (800 - a) a = a := by omega
          have := rnE_end (p := cDg) hT (by decide) (800 - a) a (by omega)
          rw [e, h82] at this
          cases this
        refine ⟨fun z => ?_, fun z => ?_, fun _ => hgt, fun _ => by simpa using h68⟩
        · simp only at z; split at z <;> omega
        · simp only at z; split at z <;> omega
      · rw [if_neg h82]
        refine ⟨fun z => ?_, fun z => ?_, fun _ => by simp only; omega, fun z => ?_⟩
        · simp only at z ⊢
          split at z
          · assumption
          · omega
        · simp only at z; split at z <;> omega
        · simp only at z; split at z <;> omega
theorem cSg_ge {c : Int32} (h : cSg c = true) : 40 ≤ c := by
  unfold cSg at h
  rw [decide_eq_true_iff] at h
  grind
/-- which sort it is -/
theorem srt {I : wr_TI} {L : wr_TL} {T : TP} {k : TK} (hk : mkV I L T k) (hG : tkG T k) : (I 55 6 = 3 ↔ k.1 = 4) ∧ (I 55 6 = 1 ↔ k.1 = 1) ∧ (I 55 6 = 2 ↔ k.1 = 2) ∧ (I 55 6 = 0 ↔ k.1 = 0) ∧ ∀ c : Int32, 40 ≤ c → (I 55 6 = c ↔ isS T k c = true) := by
  have ho := hG.1.1
  have hs := hk.2.1
  by_cases h3 : k.1 = 3
  · have hge := cSg_ge (hG.2.1 h3)
    rw [if_pos h3] at hs
    rw [hs]
    refine ⟨⟨fun z => ?_, fun z => by omega⟩, ⟨fun z => ?_, fun z => by omega⟩, ⟨fun z => ?_, fun z => by omega⟩, ⟨fun z => ?_, fun z => by omega⟩, fun c _ => ?_⟩
    · rw [z] at hge; exact absurd hge (by decide)
    · rw [z] at hge; exact absurd hge (by decide)
    · rw [z] at hge; exact absurd hge (by decide)
    · rw [z] at hge; exact absurd hge (by decide)
    · simp [isS, h3]
  · rw [if_neg h3] at hs
    have hno : ∀ c : Int32, 40 ≤ c → (I 55 6 = c ↔ isS T k c = true) := fun c hc => by
      rw [hs]
      simp only [isS, h3, false_and, decide_false]
      refine ⟨fun z => ?_, fun z => by cases z⟩
      exfalso
      split at z
      · rw [← z] at hc; exact absurd hc (by decide)
      · rename_i h4
        rw [← z] at hc
        have : 40 ≤ k.1 := (nI_leI (a := 40) (by omega) (by omega)).mp hc
        omega
    by_cases h4 : k.1 = 4
    · rw [if_pos h4] at hs
      refine ⟨⟨fun _ => h4, fun _ => hs⟩, ⟨fun z => ?_, fun z => by omega⟩, ⟨fun z => ?_, fun z => by omega⟩, ⟨fun z => ?_, fun z => by omega⟩, hno⟩
      · rw [hs] at z; exact absurd z (by decide)
      · rw [hs] at z; exact absurd z (by decide)
      · rw [hs] at z; exact absurd z (by decide)
    · rw [if_neg h4] at hs
      refine ⟨⟨fun z => ?_, fun z => by omega⟩, ⟨fun z => ?_, fun z => ?_⟩, ⟨fun z => ?_, fun z => ?_⟩, ⟨fun z => ?_, fun z => ?_⟩, hno⟩
      · rw [hs] at z; have := (nI_eq (b := 3) (by omega) (by omega)).mp z; omega
      · rw [hs] at z; exact (nI_eq (b := 1) (by omega) (by omega)).mp z
      · rw [hs, z]; rfl
      · rw [hs] at z; exact (nI_eq (b := 2) (by omega) (by omega)).mp z
      · rw [hs, z]; rfl
      · rw [hs] at z; exact (nI_eq (b := 0) (by omega) (by omega)).mp z
      · rw [hs, z]; rfl
theorem enc_63 {d : Nat → Nat} (h0 : d 0 < 128) (h : ∀ j, d j < 256) : ∀ n, n ≤ 7 → enc d (n + 1) < 128 * 256 ^ n := by
  intro n
  induction n with
  | zero => intro _; simp [enc]; exact h0
  | succ n ih =>
    intro hn
    have h1 := ih (by omega)
    have h2 := h (n + 1)
    rw [enc, Nat.pow_succ]
    omega
def encW (i : Nat) : Nat := enc (fun j => tN (wr_chr i j)) (wr_sl.getD i 0)
theorem encW_ok : ∀ i, i < 22 → encW i < 2 ^ 63 ∧ (∀ j, j < wr_sl.getD i 0 → 1 ≤ tN (wr_chr i j) ∧ tN (wr_chr i j) < 256 ∧ nI (tN (wr_chr i j)) = wr_chr i j) := by decide +kernel
theorem wd_enc {T : TP} {k : TK} (hG : tkG T k) (h1 : k.1 = 1) {i : Nat} (hi : i < 22) : lN (enc (bn T k.2.1) (k.2.2.1 - k.2.1)) = lN (encW i) ↔ isWd T k i = true := by
  obtain ⟨h8, hall, -⟩ := hG.2.2.1 h1
  obtain ⟨w1, w2⟩ := encW_ok i hi
  have hb : ∀ j, j < k.2.2.1 - k.2.1 → 1 ≤ bn T k.2.1 j ∧ bn T k.2.1 j < 256 ∧ bn T k.2.1 j < 128 ∧ bt T (k.2.1 + j) = nI (bn T k.2.1 j) := fun j hj => by
    obtain ⟨q1, q2, q3⟩ := lt_bn (hall j hj)
    exact ⟨by omega, by omega, by omega, q1⟩
  generalize hn : k.2.2.1 - k.2.1 = n at *
  have hlt : enc (bn T k.2.1) n < 2 ^ 63 := by
    cases n with
    | zero => simp [enc]
    | succ n =>
      have e : enc (bn T k.2.1) (n + 1) = enc (fun j => if j < n + 1 then bn T k.2.1 j else 0) (n + 1) := enc_c _ (fun j hj => by simp [hj])
      rw [e]
      have := enc_63 (d := fun j => if j < n + 1 then bn T k.2.1 j else 0) (by simp; exact (hb 0 (by omega)).2.2.1) (fun j => by show (if j < n + 1 then bn T k.2.1 j else 0) < 256; split; exact (hb j (by assumption)).2.1; omega) n (by omega)
      have h2 : 128 * 256 ^ n ≤ 128 * 256 ^ 7 := Nat.mul_le_mul_left _ (Nat.pow_le_pow_right (by omega) (by omega))
      omega
  rw [pk_lEQ hlt w1]
  unfold isWd
  rw [Bool.and_eq_true, decide_eq_true_iff, decide_eq_true_iff, cn_pos, hn]
  constructor
  · intro h
    obtain ⟨e1, e2⟩ := enc_inj n _ (fun j hj => ⟨(hb j hj).1, (hb j hj).2.1⟩) (fun j hj => ⟨(w2 j hj).1, (w2 j hj).2.1⟩) h
    refine ⟨⟨h1, e1⟩, fun j hj => ?_⟩
    have : bt T (k.2.1 + j) = wr_chr i j := by
      rw [(hb j (by omega)).2.2.2, e2 j (by omega)]
      exact (w2 j hj).2.2
    simp [this]
  · intro ⟨⟨_, e1⟩, e2⟩
    unfold encW
    rw [← e1]
    apply enc_c
    intro j hj
    have := e2 j (by omega)
    simp at this
    unfold bn
    rw [this]
set_option maxHeartbeats 4000000 in
set_option maxRecDepth 100000 in
theorem x_isWord {l : Launch} {I : wr_TI} {L : wr_TL} {R : wr_TR} (T : TP) (k : TK) (hk : mkV I L T k) (hG : tkG T k) (i : Nat) (hi : i < 22) (w : Int64) (hw : w = lN (encW i)) : wr_E l 0 mX8_isWord [.ref 55, .long w] SH I L R (some (.int (if isWd T k i = true then 1 else 0))) I L R := by
  have hs := (srt hk hG).2.1
  subst hw
  refine wv_pad 0 ?_
  show wr_V l 0 mX8_isWord 0 [some (.ref 55), some (.long (lN (encW i))), none] [] SH I L R 0 0 _
  refine wv_aload_n dX8_isWord_0 rfl ?_
  refine wv_getI fX8_187 dX8_isWord_1 rfl (by first | assumption | rfl) ?_
  refine wv_iconst (v := 1) dX8_isWord_4 (by decide) ?_
  refine wv_icmp_ne (tgt := 21) dX8_isWord_5 (by decide) (fun h5 => ?_) (fun h5 => ?_)
  · have h1 : ¬ k.1 = 1 := fun z => h5 (hs.mpr z)
    have hno : ¬ isWd T k i = true := fun z => h1 (by unfold isWd at z; rw [Bool.and_eq_true, decide_eq_true_iff] at z; exact z.1.1)
    refine wv_iconst (v := 0) dX8_isWord_21 (by decide) ?_
    refine wv_zret rfl rfl dX8_isWord_22 ?_
    refine ⟨?_, rfl, rfl, rfl, rfl⟩
    first | (have _ := hno; rw [if_neg hno]) | rw [if_pos h14]
  · have h1 : k.1 = 1 := hs.mp h5
    have hw := hk.2.2.2.2 h1
    have he := wd_enc hG h1 hi
    refine wv_aload_n dX8_isWord_8 rfl ?_
    refine wv_getL fX8_180 dX8_isWord_9 rfl (by first | assumption | rfl) ?_
    refine wv_lload_n dX8_isWord_12 rfl ?_
    refine wv_lcmp dX8_isWord_13 ?_
    refine wv_if_ne (tgt := 21) dX8_isWord_14 (by decide) (fun h14 => ?_) (fun h14 => ?_)
    · rw [lg_cmp_eq, hw, he] at h14
      have hno : ¬ isWd T k i = true := h14
      refine wv_iconst (v := 0) dX8_isWord_21 (by decide) ?_
      refine wv_zret rfl rfl dX8_isWord_22 ?_
      refine ⟨?_, rfl, rfl, rfl, rfl⟩
      first | (have _ := hno; rw [if_neg hno]) | rw [if_pos h14]
    · rw [lg_cmp_eq, hw, he] at h14
      refine wv_iconst (v := 1) dX8_isWord_17 (by decide) ?_
      refine wv_goto (tgt := 22) dX8_isWord_18 (by decide) ?_
      refine wv_zret rfl rfl dX8_isWord_22 ?_
      refine ⟨?_, rfl, rfl, rfl, rfl⟩
      first | (have _ := hno; rw [if_neg hno]) | rw [if_pos h14]

/-- the model's state as it reads: the token, no fault; and behind a fault -/
def mrd (I : wr_TI) (L : wr_TL) (T : TP) (k : TK) : Prop := mkV I L T k ∧ tkG T k ∧ I 55 2 = 0 ∧ I 55 3 = -1 ∧ mpV I T
def mfl (I : wr_TI) (e : Int32 × Nat) : Prop := I 55 2 = e.1 ∧ I 55 3 = nI e.2 ∧ 0 < e.1
def frW (I : wr_TI) (L : wr_TL) (I' : wr_TI) (L' : wr_TL) : Prop := (∀ b, b ≠ 55 → I' b = I b) ∧ (∀ k, k ≠ 2 → k ≠ 3 → k ≠ 4 → k ≠ 6 → k ≠ 7 → k ≠ 8 → I' 55 k = I 55 k) ∧ (∀ b, b ≠ 55 → L' b = L b) ∧ ∀ k, k ≠ 9 → L' 55 k = L 55 k
theorem frW_rf {I : wr_TI} {L : wr_TL} : frW I L I L := ⟨fun _ _ => rfl, fun _ _ _ _ _ _ _ => rfl, fun _ _ => rfl, fun _ _ => rfl⟩
theorem frW_tr {I J K : wr_TI} {L M N : wr_TL} (h1 : frW I L J M) (h2 : frW J M K N) : frW I L K N := ⟨fun b hb => (h2.1 b hb).trans (h1.1 b hb), fun k q1 q2 q3 q4 q5 q6 => (h2.2.1 k q1 q2 q3 q4 q5 q6).trans (h1.2.1 k q1 q2 q3 q4 q5 q6), fun b hb => (h2.2.2.1 b hb).trans (h1.2.2.1 b hb), fun k hk => (h2.2.2.2 k hk).trans (h1.2.2.2 k hk)⟩
theorem frW_T {I J : wr_TI} {L M : wr_TL} (h : frTk I L J M) : frW I L J M := ⟨h.1, fun k _ _ q3 q4 q5 q6 => h.2.1 k q3 q4 q5 q6, h.2.2.1, h.2.2.2⟩
theorem x_tok {l : Launch} {I : wr_TI} {L : wr_TL} {R : wr_TR} {T : TP} {k : TK} (hR : wr_RC R) (h : mrd I L T k) (h4 : ¬ k.1 = 4) : wr_P l 1 mX8_token [.ref 55] SH I L R (fun v s' I' L' R' => v = none ∧ s' = SH ∧ R' = R ∧ mrd I' L' T (tkS T k.2.2.1) ∧ frW I L I' L') := by
  obtain ⟨h1, h2, h3, h5, h6⟩ := h
  have hat := h1.2.2.1
  rw [if_neg h4] at hat
  refine wr_V.imp (x_token hR T h6 k.2.2.1 h2.1.2.2 hat) (fun v s' I' L' R' h => ?_)
  obtain ⟨q1, q2, q3, q4, q5⟩ := h
  exact ⟨q1, q2, q3, ⟨q4, tkS_g h6.2.1 h2.1.2.2, by rw [q5.2.1 2 (by omega) (by omega) (by omega) (by omega)]; exact h3, by rw [q5.2.1 3 (by omega) (by omega) (by omega) (by omega)]; exact h5, by rw [q5.2.1 5 (by omega) (by omega) (by omega) (by omega)]; exact h6.1, h6.2.1, fun i hi => by rw [q5.1 56 (by omega)]; exact h6.2.2.1 i hi, h6.2.2.2⟩, frW_T q5⟩
set_option maxHeartbeats 4000000 in
set_option maxRecDepth 100000 in
theorem x_wrong {l : Launch} {I : wr_TI} {L : wr_TL} {R : wr_TR} {T : TP} {k : TK} (h : mrd I L T k) (what : Int32) (hw : 0 < what) : wr_P l 0 mX8_wrong [.ref 55, .int what] SH I L R (fun v s' I' L' R' => v = none ∧ s' = SH ∧ L' = L ∧ R' = R ∧ mfl I' (if k.1 = 4 then 1 else what, k.2.1) ∧ frW I L I' L) := by
  obtain ⟨h1, h2, h3, h5, h6⟩ := h
  have hs := (srt h1 h2).1
  refine wv_pad 0 ?_
  show wr_V l 0 mX8_wrong 0 [some (.ref 55), some (.int what)] [] SH I L R 0 0 _
  refine wv_aload_n dX8_wrong_0 rfl ?_
  refine wv_getI fX8_200 dX8_wrong_1 rfl (by first | assumption | rfl) ?_
  refine wv_if_le (tgt := 8) dX8_wrong_4 (by decide) (fun h4 => ?_) (fun h4 => absurd (by rw [h3]; exact Int32.le_refl _) h4)
  refine wv_aload_n dX8_wrong_8 rfl ?_
  refine wv_aload_n dX8_wrong_9 rfl ?_
  refine wv_getI fX8_187 dX8_wrong_10 rfl (by first | assumption | rfl) ?_
  refine wv_iconst (v := 3) dX8_wrong_13 (by decide) ?_
  refine wv_icmp_ne (tgt := 21) dX8_wrong_14 (by decide) (fun h14 => ?_) (fun h14 => ?_)
  · have e4 : ¬ k.1 = 4 := fun z => h14 (hs.mpr z)
    refine wv_iload_n dX8_wrong_21 rfl ?_
    refine wv_putI fX8_200 dX8_wrong_22 rfl rfl rfl rfl (by first | assumption | rfl) ?_
    refine wv_aload_n dX8_wrong_25 rfl ?_
    refine wv_aload_n dX8_wrong_26 rfl ?_
    refine wv_getI fX8_177 dX8_wrong_27 rfl (by first | assumption | rfl) ?_
    refine wv_putI fX8_13 dX8_wrong_30 rfl rfl rfl rfl (by first | assumption | rfl) ?_
    refine wv_ret (x := ()) rfl dX8_wrong_33 ?_
    refine ⟨rfl, rfl, rfl, rfl, ⟨?_, ?_, ?_⟩, fun b hb => by rw [wr_uI_ne hb, wr_uI_ne hb], fun q q1 q2 _ _ _ _ => by simp [wr_uI, q1, q2], fun _ _ => rfl, fun _ _ => rfl⟩
    · first | (rw [if_pos e4]; simp [wr_uI]; done) | (rw [if_neg e4]; simp [wr_uI])
    · simp [wr_uI]; exact h1.1
    · first | (simp only [e4, if_true]; decide) | (simp only [e4, if_false]; exact hw)
  · have e4 : k.1 = 4 := hs.mp h14
    refine wv_iconst (v := 1) dX8_wrong_17 (by decide) ?_
    refine wv_goto (tgt := 22) dX8_wrong_18 (by decide) ?_
    refine wv_putI fX8_200 dX8_wrong_22 rfl rfl rfl rfl (by first | assumption | rfl) ?_
    refine wv_aload_n dX8_wrong_25 rfl ?_
    refine wv_aload_n dX8_wrong_26 rfl ?_
    refine wv_getI fX8_177 dX8_wrong_27 rfl (by first | assumption | rfl) ?_
    refine wv_putI fX8_13 dX8_wrong_30 rfl rfl rfl rfl (by first | assumption | rfl) ?_
    refine wv_ret (x := ()) rfl dX8_wrong_33 ?_
    refine ⟨rfl, rfl, rfl, rfl, ⟨?_, ?_, ?_⟩, fun b hb => by rw [wr_uI_ne hb, wr_uI_ne hb], fun q q1 q2 _ _ _ _ => by simp [wr_uI, q1, q2], fun _ _ => rfl, fun _ _ => rfl⟩
    · first | (rw [if_pos e4]; simp [wr_uI]; done) | (rw [if_neg e4]; simp [wr_uI])
    · simp [wr_uI]; exact h1.1
    · first | (simp only [e4, if_true]; decide) | (simp only [e4, if_false]; exact hw)

set_option maxHeartbeats 4000000 in
set_option maxRecDepth 100000 in
theorem x_want {l : Launch} {I : wr_TI} {L : wr_TL} {R : wr_TR} {T : TP} {k : TK} (hR : wr_RC R) (h : mrd I L T k) (i : Nat) (hi : i < 22) (w : Int64) (hw : w = lN (encW i)) : wr_P l 2 mX8_want [.ref 55, .long w] SH I L R (fun v s' I' L' R' => v = none ∧ s' = SH ∧ R' = R ∧ frW I L I' L' ∧ (isWd T k i = true → mrd I' L' T (tkS T k.2.2.1)) ∧ (¬ isWd T k i = true → mfl I' (rfF k, k.2.1))) := by
  have h0 := h.2.2.1
  refine wv_pad 0 ?_
  show wr_V l 2 mX8_want 0 [some (.ref 55), some (.long w), none] [] SH I L R 0 0 _
  refine wv_aload_n dX8_want_0 rfl ?_
  refine wv_getI fX8_200 dX8_want_1 rfl (by first | assumption | rfl) ?_
  refine wv_if_le (tgt := 8) dX8_want_4 (by decide) (fun h4 => ?_) (fun h4 => absurd (by rw [h0]; exact Int32.le_refl _) h4)
  refine wv_aload_n dX8_want_8 rfl ?_
  refine wv_lload_n dX8_want_9 rfl ?_
  refine wv_v1e oX8_isWord kX8_203 dX8_want_10 (by omega) (by first | assumption | rfl) ⟨rfl, by decide⟩ (Nat.le_of_ble_eq_true rfl) (Nat.le_of_ble_eq_true rfl) (x_isWord T k h.1 h.2.1 i hi w hw) ?_
  refine wv_if_ne (tgt := 24) dX8_want_13 (by decide) (fun h13 => ?_) (fun h13 => ?_)
  · rw [if10, Decidable.not_not] at h13
    have h4 : ¬ k.1 = 4 := fun z => by unfold isWd at h13; rw [Bool.and_eq_true, decide_eq_true_iff] at h13; omega
    refine wv_aload_n dX8_want_24 rfl ?_
    refine wv_v0 oX8_token kX8_210 dX8_want_25 (by omega) (by first | assumption | rfl) ⟨rfl, by decide⟩ (Nat.le_of_ble_eq_true rfl) (Nat.le_of_ble_eq_true rfl) (x_tok hR h h4) (fun v8 s8 J8 L8 R8 h8 => ?_)
    obtain ⟨rfl, rfl, rfl, hm8, hf8⟩ := h8
    refine wv_ret (x := ()) rfl dX8_want_28 ?_
    first
      | exact ⟨rfl, rfl, rfl, hf8, fun _ => hm8, fun z => absurd h13 z⟩
      | exact ⟨rfl, rfl, rfl, hf9, fun z => absurd z h13, fun _ => hm9⟩
  · rw [if10] at h13
    refine wv_aload_n dX8_want_16 rfl ?_
    refine wv_iconst (v := 2) dX8_want_17 (by decide) ?_
    refine wv_v1 oX8_wrong kX8_207 dX8_want_18 (by omega) (by first | assumption | rfl) ⟨rfl, by decide⟩ (Nat.le_of_ble_eq_true rfl) (Nat.le_of_ble_eq_true rfl) (x_wrong h 2 (by decide)) (fun v9 s9 J9 L9 R9 h9 => ?_)
    obtain ⟨rfl, rfl, rfl, rfl, hm9, hf9⟩ := h9
    refine wv_goto (tgt := 28) dX8_want_21 (by decide) ?_
    refine wv_ret (x := ()) rfl dX8_want_28 ?_
    first
      | exact ⟨rfl, rfl, rfl, hf8, fun _ => hm8, fun z => absurd h13 z⟩
      | exact ⟨rfl, rfl, rfl, hf9, fun z => absurd z h13, fun _ => hm9⟩

set_option maxHeartbeats 4000000 in
set_option maxRecDepth 100000 in
theorem x_want9 {l : Launch} {I : wr_TI} {L : wr_TL} {R : wr_TR} (h : 0 < I 55 2) (w : Int64) : wr_E l 2 mX8_want [.ref 55, .long w] SH I L R none I L R := by
  refine wv_pad 0 ?_
  show wr_V l 2 mX8_want 0 [some (.ref 55), some (.long w), none] [] SH I L R 0 0 _
  refine wv_aload_n dX8_want_0 rfl ?_
  refine wv_getI fX8_200 dX8_want_1 rfl (by first | assumption | rfl) ?_
  refine wv_if_le (tgt := 8) dX8_want_4 (by decide) (fun h4 => absurd h4 (Int32.not_le.mpr h)) (fun h4 => ?_)
  refine wv_ret (x := ()) rfl dX8_want_7 ?_
  exact ⟨rfl, rfl, rfl, rfl, rfl⟩

set_option maxHeartbeats 4000000 in
set_option maxRecDepth 100000 in
theorem x_tnum9 {l : Launch} {I : wr_TI} {L : wr_TL} {R : wr_TR} (h : 0 < I 55 2) (a b : Int32) : wr_E l 2 mX8_toldNumber [.ref 55, .int a, .int b] SH I L R (some (.int 0)) I L R := by
  refine wv_pad 1 ?_
  show wr_V l 2 mX8_toldNumber 0 [some (.ref 55), some (.int a), some (.int b), none] [] SH I L R 0 0 _
  refine wv_aload_n dX8_toldNumber_0 rfl ?_
  refine wv_getI fX8_200 dX8_toldNumber_1 rfl (by first | assumption | rfl) ?_
  refine wv_if_le (tgt := 9) dX8_toldNumber_4 (by decide) (fun h4 => absurd h4 (Int32.not_le.mpr h)) (fun h4 => ?_)
  refine wv_iconst (v := 0) dX8_toldNumber_7 (by decide) ?_
  refine wv_iret rfl dX8_toldNumber_8 ?_
  exact ⟨rfl, rfl, rfl, rfl, rfl⟩

set_option maxHeartbeats 4000000 in
set_option maxRecDepth 100000 in
theorem x_tnum {l : Launch} {I : wr_TI} {L : wr_TL} {R : wr_TR} {T : TP} {k : TK} (hR : wr_RC R) (h : mrd I L T k) (a b : Int32) : wr_P l 2 mX8_toldNumber [.ref 55, .int a, .int b] SH I L R (fun v s' I' L' R' => s' = SH ∧ R' = R ∧ frW I L I' L' ∧ (tkN k a b = true → v = some (.int k.2.2.2) ∧ mrd I' L' T (tkS T k.2.2.1)) ∧ (¬ tkN k a b = true → (∃ x, v = some (.int x)) ∧ mfl I' (tnF k, k.2.1))) := by
  have h0 := h.2.2.1
  have hs := (srt h.1 h.2.1).2.2.1
  refine wv_pad 1 ?_
  show wr_V l 2 mX8_toldNumber 0 [some (.ref 55), some (.int a), some (.int b), none] [] SH I L R 0 0 _
  refine wv_aload_n dX8_toldNumber_0 rfl ?_
  refine wv_getI fX8_200 dX8_toldNumber_1 rfl (by first | assumption | rfl) ?_
  refine wv_if_le (tgt := 9) dX8_toldNumber_4 (by decide) (fun h4 => ?_) (fun h4 => absurd (by rw [h0]; exact Int32.le_refl _) h4)
  refine wv_aload_n dX8_toldNumber_9 rfl ?_
  refine wv_getI fX8_187 dX8_toldNumber_10 rfl (by first | assumption | rfl) ?_
  refine wv_iconst (v := 2) dX8_toldNumber_13 (by decide) ?_
  refine wv_icmp_eq (tgt := 25) dX8_toldNumber_14 (by decide) (fun h14 => ?_) (fun h14 => ?_)
  · have h2 : k.1 = 2 := hs.mp h14
    have hx := h.1.2.2.2.1 h2
    have h4 : ¬ k.1 = 4 := by omega
    refine wv_aload_n dX8_toldNumber_25 rfl ?_
    refine wv_getI fX8_184 dX8_toldNumber_26 rfl (by first | assumption | rfl) ?_
    refine wv_iload_n dX8_toldNumber_29 rfl ?_
    refine wv_icmp_lt (tgt := 41) dX8_toldNumber_30 (by decide) (fun h30 => ?_) (fun h30 => ?_)
    · rw [hx] at h30
      have hno : ¬ tkN k a b = true := fun z => absurd h30 (Int32.not_lt.mpr (tkN_i z).2.1)
      have etn : tnF k = (if k.1 = 4 then 1 else 4) := by unfold tnF; rw [if_pos h2, if_neg h4]
      refine wv_aload_n dX8_toldNumber_41 rfl ?_
      refine wv_iconst (v := 4) dX8_toldNumber_42 (by decide) ?_
      refine wv_v1 oX8_wrong kX8_207 dX8_toldNumber_43 (by omega) (by first | assumption | rfl) ⟨rfl, by decide⟩ (Nat.le_of_ble_eq_true rfl) (Nat.le_of_ble_eq_true rfl) (x_wrong h 4 (by decide)) (fun v9 s9 J9 L9 R9 h9 => ?_)
      obtain ⟨rfl, rfl, rfl, rfl, hm9, hf9⟩ := h9
      first
        | (have _ := hye
           refine wv_aload_n dX8_toldNumber_46 rfl ?_
           refine wv_getI fX8_184 dX8_toldNumber_47 rfl (by first | assumption | rfl) ?_
           rw [hx]
           refine wv_istore_k (i := 3) dX8_toldNumber_50 rfl (by decide) ?_
           refine wv_aload_n dX8_toldNumber_51 rfl ?_
           refine wv_getI fX8_200 dX8_toldNumber_52 rfl (by first | assumption | rfl) ?_
           refine wv_if_ne (tgt := 62) dX8_toldNumber_55 (by decide) (fun h55 => absurd h0 h55) (fun h55 => ?_)
           refine wv_aload_n dX8_toldNumber_58 rfl ?_
           refine wv_v0 oX8_token kX8_210 dX8_toldNumber_59 (by omega) (by first | assumption | rfl) ⟨rfl, by decide⟩ (Nat.le_of_ble_eq_true rfl) (Nat.le_of_ble_eq_true rfl) (x_tok hR h h4) (fun v8 s8 J8 L8 R8 h8 => ?_)
           obtain ⟨rfl, rfl, rfl, hm8, hf8⟩ := h8
           refine wv_iload_n dX8_toldNumber_62 rfl ?_
           refine wv_iret rfl dX8_toldNumber_63 ?_
           exact ⟨rfl, rfl, hf8, fun _ => ⟨rfl, hm8⟩, fun z => absurd hye z⟩)
        | (have _ := hno
           refine wv_aload_n dX8_toldNumber_46 rfl ?_
           refine wv_getI fX8_184 dX8_toldNumber_47 rfl (by first | assumption | rfl) ?_
           refine wv_istore_k (i := 3) dX8_toldNumber_50 rfl (by decide) ?_
           refine wv_aload_n dX8_toldNumber_51 rfl ?_
           refine wv_getI fX8_200 dX8_toldNumber_52 rfl (by first | assumption | rfl) ?_
           refine wv_if_ne (tgt := 62) dX8_toldNumber_55 (by decide) (fun h55 => ?_) (fun h55 => absurd h55 (fun z => by rw [hm9.1] at z; have := hm9.2.2; rw [z] at this; exact absurd this (by decide)))
           refine wv_iload_n dX8_toldNumber_62 rfl ?_
           refine wv_iret rfl dX8_toldNumber_63 ?_
           exact ⟨rfl, rfl, hf9, fun z => absurd z hno, fun _ => ⟨⟨_, rfl⟩, by rw [etn]; exact hm9⟩⟩)
    · rw [hx] at h30
      refine wv_aload_n dX8_toldNumber_33 rfl ?_
      refine wv_getI fX8_184 dX8_toldNumber_34 rfl (by first | assumption | rfl) ?_
      refine wv_iload_n dX8_toldNumber_37 rfl ?_
      refine wv_icmp_le (tgt := 46) dX8_toldNumber_38 (by decide) (fun h38 => ?_) (fun h38 => ?_)
      · rw [hx] at h38
        have hye : tkN k a b = true := by unfold tkN; rw [decide_eq_true_iff]; exact ⟨h2, Int32.not_lt.mp h30, h38⟩
        first
          | (have _ := hye
             refine wv_aload_n dX8_toldNumber_46 rfl ?_
             refine wv_getI fX8_184 dX8_toldNumber_47 rfl (by first | assumption | rfl) ?_
             rw [hx]
             refine wv_istore_k (i := 3) dX8_toldNumber_50 rfl (by decide) ?_
             refine wv_aload_n dX8_toldNumber_51 rfl ?_
             refine wv_getI fX8_200 dX8_toldNumber_52 rfl (by first | assumption | rfl) ?_
             refine wv_if_ne (tgt := 62) dX8_toldNumber_55 (by decide) (fun h55 => absurd h0 h55) (fun h55 => ?_)
             refine wv_aload_n dX8_toldNumber_58 rfl ?_
             refine wv_v0 oX8_token kX8_210 dX8_toldNumber_59 (by omega) (by first | assumption | rfl) ⟨rfl, by decide⟩ (Nat.le_of_ble_eq_true rfl) (Nat.le_of_ble_eq_true rfl) (x_tok hR h h4) (fun v8 s8 J8 L8 R8 h8 => ?_)
             obtain ⟨rfl, rfl, rfl, hm8, hf8⟩ := h8
             refine wv_iload_n dX8_toldNumber_62 rfl ?_
             refine wv_iret rfl dX8_toldNumber_63 ?_
             exact ⟨rfl, rfl, hf8, fun _ => ⟨rfl, hm8⟩, fun z => absurd hye z⟩)
          | (have _ := hno
             refine wv_aload_n dX8_toldNumber_46 rfl ?_
             refine wv_getI fX8_184 dX8_toldNumber_47 rfl (by first | assumption | rfl) ?_
             refine wv_istore_k (i := 3) dX8_toldNumber_50 rfl (by decide) ?_
             refine wv_aload_n dX8_toldNumber_51 rfl ?_
             refine wv_getI fX8_200 dX8_toldNumber_52 rfl (by first | assumption | rfl) ?_
             refine wv_if_ne (tgt := 62) dX8_toldNumber_55 (by decide) (fun h55 => ?_) (fun h55 => absurd h55 (fun z => by rw [hm9.1] at z; have := hm9.2.2; rw [z] at this; exact absurd this (by decide)))
             refine wv_iload_n dX8_toldNumber_62 rfl ?_
             refine wv_iret rfl dX8_toldNumber_63 ?_
             exact ⟨rfl, rfl, hf9, fun z => absurd z hno, fun _ => ⟨⟨_, rfl⟩, by rw [etn]; exact hm9⟩⟩)
      · rw [hx] at h38
        have hno : ¬ tkN k a b = true := fun z => h38 (tkN_i z).2.2
        have etn : tnF k = (if k.1 = 4 then 1 else 4) := by unfold tnF; rw [if_pos h2, if_neg h4]
        refine wv_aload_n dX8_toldNumber_41 rfl ?_
        refine wv_iconst (v := 4) dX8_toldNumber_42 (by decide) ?_
        refine wv_v1 oX8_wrong kX8_207 dX8_toldNumber_43 (by omega) (by first | assumption | rfl) ⟨rfl, by decide⟩ (Nat.le_of_ble_eq_true rfl) (Nat.le_of_ble_eq_true rfl) (x_wrong h 4 (by decide)) (fun v9 s9 J9 L9 R9 h9 => ?_)
        obtain ⟨rfl, rfl, rfl, rfl, hm9, hf9⟩ := h9
        first
          | (have _ := hye
             refine wv_aload_n dX8_toldNumber_46 rfl ?_
             refine wv_getI fX8_184 dX8_toldNumber_47 rfl (by first | assumption | rfl) ?_
             rw [hx]
             refine wv_istore_k (i := 3) dX8_toldNumber_50 rfl (by decide) ?_
             refine wv_aload_n dX8_toldNumber_51 rfl ?_
             refine wv_getI fX8_200 dX8_toldNumber_52 rfl (by first | assumption | rfl) ?_
             refine wv_if_ne (tgt := 62) dX8_toldNumber_55 (by decide) (fun h55 => absurd h0 h55) (fun h55 => ?_)
             refine wv_aload_n dX8_toldNumber_58 rfl ?_
             refine wv_v0 oX8_token kX8_210 dX8_toldNumber_59 (by omega) (by first | assumption | rfl) ⟨rfl, by decide⟩ (Nat.le_of_ble_eq_true rfl) (Nat.le_of_ble_eq_true rfl) (x_tok hR h h4) (fun v8 s8 J8 L8 R8 h8 => ?_)
             obtain ⟨rfl, rfl, rfl, hm8, hf8⟩ := h8
             refine wv_iload_n dX8_toldNumber_62 rfl ?_
             refine wv_iret rfl dX8_toldNumber_63 ?_
             exact ⟨rfl, rfl, hf8, fun _ => ⟨rfl, hm8⟩, fun z => absurd hye z⟩)
          | (have _ := hno
             refine wv_aload_n dX8_toldNumber_46 rfl ?_
             refine wv_getI fX8_184 dX8_toldNumber_47 rfl (by first | assumption | rfl) ?_
             refine wv_istore_k (i := 3) dX8_toldNumber_50 rfl (by decide) ?_
             refine wv_aload_n dX8_toldNumber_51 rfl ?_
             refine wv_getI fX8_200 dX8_toldNumber_52 rfl (by first | assumption | rfl) ?_
             refine wv_if_ne (tgt := 62) dX8_toldNumber_55 (by decide) (fun h55 => ?_) (fun h55 => absurd h55 (fun z => by rw [hm9.1] at z; have := hm9.2.2; rw [z] at this; exact absurd this (by decide)))
             refine wv_iload_n dX8_toldNumber_62 rfl ?_
             refine wv_iret rfl dX8_toldNumber_63 ?_
             exact ⟨rfl, rfl, hf9, fun z => absurd z hno, fun _ => ⟨⟨_, rfl⟩, by rw [etn]; exact hm9⟩⟩)
  · have h2 : ¬ k.1 = 2 := fun z => h14 (hs.mpr z)
    have hno : ¬ tkN k a b = true := fun z => h2 (tkN_i z).1
    have etn : tnF k = rfF k := by unfold tnF; rw [if_neg h2]
    refine wv_aload_n dX8_toldNumber_17 rfl ?_
    refine wv_iconst (v := 2) dX8_toldNumber_18 (by decide) ?_
    refine wv_v1 oX8_wrong kX8_207 dX8_toldNumber_19 (by omega) (by first | assumption | rfl) ⟨rfl, by decide⟩ (Nat.le_of_ble_eq_true rfl) (Nat.le_of_ble_eq_true rfl) (x_wrong h 2 (by decide)) (fun v9 s9 J9 L9 R9 h9 => ?_)
    obtain ⟨rfl, rfl, rfl, rfl, hm9, hf9⟩ := h9
    refine wv_goto (tgt := 46) dX8_toldNumber_22 (by decide) ?_
    first
      | (have _ := hye
         refine wv_aload_n dX8_toldNumber_46 rfl ?_
         refine wv_getI fX8_184 dX8_toldNumber_47 rfl (by first | assumption | rfl) ?_
         rw [hx]
         refine wv_istore_k (i := 3) dX8_toldNumber_50 rfl (by decide) ?_
         refine wv_aload_n dX8_toldNumber_51 rfl ?_
         refine wv_getI fX8_200 dX8_toldNumber_52 rfl (by first | assumption | rfl) ?_
         refine wv_if_ne (tgt := 62) dX8_toldNumber_55 (by decide) (fun h55 => absurd h0 h55) (fun h55 => ?_)
         refine wv_aload_n dX8_toldNumber_58 rfl ?_
         refine wv_v0 oX8_token kX8_210 dX8_toldNumber_59 (by omega) (by first | assumption | rfl) ⟨rfl, by decide⟩ (Nat.le_of_ble_eq_true rfl) (Nat.le_of_ble_eq_true rfl) (x_tok hR h h4) (fun v8 s8 J8 L8 R8 h8 => ?_)
         obtain ⟨rfl, rfl, rfl, hm8, hf8⟩ := h8
         refine wv_iload_n dX8_toldNumber_62 rfl ?_
         refine wv_iret rfl dX8_toldNumber_63 ?_
         exact ⟨rfl, rfl, hf8, fun _ => ⟨rfl, hm8⟩, fun z => absurd hye z⟩)
      | (have _ := hno
         refine wv_aload_n dX8_toldNumber_46 rfl ?_
         refine wv_getI fX8_184 dX8_toldNumber_47 rfl (by first | assumption | rfl) ?_
         refine wv_istore_k (i := 3) dX8_toldNumber_50 rfl (by decide) ?_
         refine wv_aload_n dX8_toldNumber_51 rfl ?_
         refine wv_getI fX8_200 dX8_toldNumber_52 rfl (by first | assumption | rfl) ?_
         refine wv_if_ne (tgt := 62) dX8_toldNumber_55 (by decide) (fun h55 => ?_) (fun h55 => absurd h55 (fun z => by rw [hm9.1] at z; have := hm9.2.2; rw [z] at this; exact absurd this (by decide)))
         refine wv_iload_n dX8_toldNumber_62 rfl ?_
         refine wv_iret rfl dX8_toldNumber_63 ?_
         exact ⟨rfl, rfl, hf9, fun z => absurd z hno, fun _ => ⟨⟨_, rfl⟩, by rw [etn]; exact hm9⟩⟩)

