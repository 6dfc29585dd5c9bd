/-! the model: what a text has said so far -/
def xb (b : Nat) : Bool := decide (b = 55 ∨ b = 57 ∨ b = 58 ∨ b = 59 ∨ b = 63 ∨ b = 64 ∨ b = 65 ∨ b = 69 ∨ b = 70 ∨ b = 73)
def xk (k : Nat) : Bool := decide ((2 ≤ k ∧ k ≤ 4) ∨ (6 ≤ k ∧ k ≤ 8) ∨ (22 ≤ k ∧ k ≤ 27) ∨ (34 ≤ k ∧ k ≤ 36) ∨ k = 43 ∨ k = 45 ∨ k = 47 ∨ k = 48)
def frX (I : wr_TI) (L : wr_TL) (I' : wr_TI) (L' : wr_TL) : Prop := (∀ b, xb b = false → I' b = I b) ∧ (∀ k, xk k = false → I' 55 k = I 55 k) ∧ (∀ b, b ≠ 55 → L' b = L b) ∧ ∀ k, k ≠ 9 → L' 55 k = L 55 k
theorem frX_rf {I : wr_TI} {L : wr_TL} : frX I L I L := ⟨fun _ _ => rfl, fun _ _ => rfl, fun _ _ => rfl, fun _ _ => rfl⟩
theorem frX_tr {I J K : wr_TI} {L M N : wr_TL} (h1 : frX I L J M) (h2 : frX J M K N) : frX I L K N := ⟨fun b hb => (h2.1 b hb).trans (h1.1 b hb), fun k hk => (h2.2.1 k hk).trans (h1.2.1 k hk), fun b hb => (h2.2.2.1 b hb).trans (h1.2.2.1 b hb), fun k hk => (h2.2.2.2 k hk).trans (h1.2.2.2 k hk)⟩
theorem frX_Y {I J : wr_TI} {L M : wr_TL} (h : frY I L J M) : frX I L J M := by
  refine ⟨fun b hb => ?_, fun k hk => ?_, h.2.2.1, h.2.2.2⟩
  · unfold xb at hb; rw [decide_eq_false_iff_not] at hb
    exact h.1 b (by omega) (by omega) (by omega) (by omega)
  · unfold xk at hk; rw [decide_eq_false_iff_not] at hk
    exact h.2.1 k (by omega) (by omega) (by omega) (by omega) (by omega) (by omega) (by omega) (by omega) (by omega) (by omega)
theorem frX_W {I J : wr_TI} {L M : wr_TL} (h : frW I L J M) : frX I L J M := frX_Y (frY_W h)
theorem frX_u {I : wr_TI} {L : wr_TL} {k : Nat} {x : Int32} (hk : xk k = true) : frX I L (wr_uI I 55 k x) L := by
  refine ⟨fun b hb => wr_uI_ne (fun z => by subst z; exact absurd hb (by decide)), fun j hj => ?_, fun _ _ => rfl, fun _ _ => rfl⟩
  have : ¬ j = k := fun z => by subst z; rw [hk] at hj; cases hj
  simp [wr_uI, this]
theorem frX_a {I : wr_TI} {L : wr_TL} {a k : Nat} {x : Int32} (ha : xb a = true) (h5 : a ≠ 55) : frX I L (wr_uI I a k x) L := by
  refine ⟨fun b hb => wr_uI_ne (fun z => by subst z; rw [ha] at hb; cases hb), fun j _ => by rw [wr_uI_ne (fun z => h5 z.symm)], fun _ _ => rfl, fun _ _ => rfl⟩
def mxl (I : wr_TI) (s : XS) : Prop := I 55 24 = gUp s.2.1 ∧ I 55 25 = gRe s.2.1 ∧ I 55 26 = nI (gSe s.2.1) ∧ I 55 27 = gSh s.2.1 ∧ I 55 43 = nI (gLn s.2.1) ∧ mlR (gC s.2.1) (gLn s.2.1) (I 69) (I 70) ∧ I 55 45 = nI s.2.2.1 ∧ gLn s.2.1 ≤ 259 ∧ s.2.2.1 ≤ 30
def mxg (I : wr_TI) (s : XS) : Prop := I 55 22 = nI (gN s.2.1) ∧ (6 ≤ gN s.2.1 ∧ gN s.2.1 ≤ 40) ∧ (∀ x, x < 40 → I 58 x = bI (gG s.2.1 x) ∧ I 57 x = bI (gD s.2.1 x) ∧ I 59 x = bI (gF s.2.1 x)) ∧ I 55 23 = nI s.2.1.2.1.2.2.2 ∧ s.2.1.2.1.2.2.2 ≤ 6 ∧ (∀ k, k < s.2.1.2.1.2.2.2 → I 63 k = s.2.1.2.1.1 k ∧ I 64 k = s.2.1.2.1.2.1 k ∧ I 65 k = s.2.1.2.1.2.2.1 k) ∧ I 55 34 = bI s.2.2.2.1 ∧ I 55 35 = bI s.2.2.2.2.1 ∧ I 55 36 = bI s.2.2.2.2.2 ∧ (s.2.2.2.2.2 = false → I 55 45 = 0) ∧ (s.2.2.2.2.2 = true → mxl I s)
def mxV (I : wr_TI) (L : wr_TL) (T : TP) (s : XS) : Prop := mrd I L T s.1 ∧ tkQ s.1 ∧ mxg I s
theorem mxg_fr {I J : wr_TI} {s : XS} (h : mxg I s) (h1 : ∀ b, b ≠ 55 → J b = I b) (h2 : ∀ k, k ≠ 2 → k ≠ 3 → k ≠ 4 → k ≠ 6 → k ≠ 7 → k ≠ 8 → J 55 k = I 55 k) : mxg J s := by
  unfold mxg mxl at h ⊢
  rw [h1 57 (by omega), h1 58 (by omega), h1 59 (by omega), h1 63 (by omega), h1 64 (by omega), h1 65 (by omega), h1 69 (by omega), h1 70 (by omega), h2 22 (by omega) (by omega) (by omega) (by omega) (by omega) (by omega), h2 23 (by omega) (by omega) (by omega) (by omega) (by omega) (by omega), h2 24 (by omega) (by omega) (by omega) (by omega) (by omega) (by omega), h2 25 (by omega) (by omega) (by omega) (by omega) (by omega) (by omega), h2 26 (by omega) (by omega) (by omega) (by omega) (by omega) (by omega), h2 27 (by omega) (by omega) (by omega) (by omega) (by omega) (by omega), h2 34 (by omega) (by omega) (by omega) (by omega) (by omega) (by omega), h2 35 (by omega) (by omega) (by omega) (by omega) (by omega) (by omega), h2 36 (by omega) (by omega) (by omega) (by omega) (by omega) (by omega), h2 43 (by omega) (by omega) (by omega) (by omega) (by omega) (by omega), h2 45 (by omega) (by omega) (by omega) (by omega) (by omega) (by omega)]
  exact h
theorem mxg_k {I : wr_TI} {s : XS} {k : TK} (h : mxg I s) : mxg I (k, s.2) := h
/-- what a line leaves -/
def mQ (I : wr_TI) (L : wr_TL) (R : wr_TR) (T : TP) (r : XR) : wr_TQ := fun v s' I' L' R' => v = none ∧ s' = SH ∧ R' = R ∧ frX I L I' L' ∧ match r with
  | .inl s => mxV I' L' T s
  | .inr e => mfl I' e
/-- the lines, but for the sign at the end -/
def bSeats (T : TP) (s : XS) : XR := lbd (lNm 6 40 (lnx T (s.1, s.2.1, s.2.2.1, true, s.2.2.2.2))) (fun s1 => .inl (lnx T (s1.1, sN (tN s1.1.2.2.2) s1.2.1, s1.2.2)))
theorem lbd_as (r : XR) (f g : XS → XR) : lbd (lbd r f) g = lbd r (fun s => lbd (f s) g) := by cases r <;> rfl
theorem lSeats_b (T : TP) (s : XS) : lSeats T s = if s.2.2.2.1 = true ∨ s.2.2.2.2.1 = true then lrf s else lbd (bSeats T s) (lSg T 59) := by
  unfold lSeats bSeats
  rw [lbd_as]
  rfl
set_option maxHeartbeats 4000000 in
set_option maxRecDepth 100000 in
theorem x_seats {l : Launch} {I : wr_TI} {L : wr_TL} {R : wr_TR} (hR : wr_RC R) (T : TP) (s : XS) (h : mxV I L T s) (h4 : ¬ s.1.1 = 4) : wr_P l 3 mX8_readSeats [.ref 55] SH I L R (mQ I L R T (bSeats T s)) := by
  obtain ⟨h1, h2, h3⟩ := h
  refine wv_pad 0 ?_
  show wr_V l 3 mX8_readSeats 0 [some (.ref 55)] [] SH I L R 0 0 _
  refine wv_aload_n dX8_readSeats_0 rfl ?_
  refine wv_v0 oX8_token kX8_210 dX8_readSeats_1 (by omega) (by first | assumption | rfl) ⟨rfl, by decide⟩ (Nat.le_of_ble_eq_true rfl) (Nat.le_of_ble_eq_true rfl) (x_tok hR h1 h4) (fun v9 s9 J9 L9 R9 h9 => ?_)
  obtain ⟨rfl, rfl, rfl, hm9, hf9⟩ := h9
  refine wv_aload_n dX8_readSeats_4 rfl ?_
  refine wv_aload_n dX8_readSeats_5 rfl ?_
  refine wv_bipush (v := 6) dX8_readSeats_6 (by decide) ?_
  refine wv_bipush (v := 40) dX8_readSeats_8 (by decide) ?_
  refine wv_v2 oX8_toldNumber kX8_217 dX8_readSeats_10 (by omega) (by first | assumption | rfl) ⟨rfl, by decide⟩ (Nat.le_of_ble_eq_true rfl) (Nat.le_of_ble_eq_true rfl) (x_tnum hR hm9 6 40) (fun v8 s8 J8 L8 R8 h8 => ?_)
  obtain ⟨rfl, rfl, hf8, hy8, hn8⟩ := h8
  have hf98 := frW_tr hf9 hf8
  by_cases hc : tkN (tkS T s.1.2.2.1) 6 40 = true
  · obtain ⟨rfl, hm8⟩ := hy8 hc
    refine wv_putI fX8_316 dX8_readSeats_13 rfl rfl rfl rfl (by first | assumption | rfl) ?_
    refine wv_aload_n dX8_readSeats_16 rfl ?_
    refine wv_iconst (v := 1) dX8_readSeats_17 (by decide) ?_
    refine wv_putI fX8_319 dX8_readSeats_18 rfl rfl rfl rfl (by first | assumption | rfl) ?_
    refine wv_ret (x := ()) rfl dX8_readSeats_21 ?_
    have e : bSeats T s = .inl (lnx T (tkS T s.1.2.2.1, sN (tN (tkS T s.1.2.2.1).2.2.2) s.2.1, s.2.2.1, true, s.2.2.2.2)) := by
      unfold bSeats
      rw [lNm_t (show tkN (lnx T (s.1, s.2.1, s.2.2.1, true, s.2.2.2.2)).1 6 40 = true from hc)]
      rfl
    rw [e]
    obtain ⟨-, c2, c3⟩ := tkN_i hc
    have hq := tkS_q (T := T) hm9.2.2.2.2.2.1 hm9.2.1.1.2.2
    obtain ⟨n, hn1, hn2⟩ := tkS_q (T := T) h1.2.2.2.2.2.1 h1.2.1.1.2.2 (tkN_i hc).1
    rw [hn2] at c2 c3
    have c2 : 6 ≤ n := (nI_leI (a := 6) (by omega) (by omega)).mp c2
    have c3 : n ≤ 40 := (nI_leI (b := 40) (by omega) (by omega)).mp c3
    have eN : tN (tkS T s.1.2.2.1).2.2.2 = n := by rw [hn2]; exact tN_nI (by omega)
    have hg := mxg_fr h3 hf98.1 (fun k a1 a2 a3 a4 a5 a6 => hf98.2.1 k a1 a2 a3 a4 a5 a6)
    have hfx : frX I L _ _ := frX_tr (frX_W hf98) (frX_tr (frX_u (k := 22) (x := (tkS T s.1.2.2.1).2.2.2) (by decide)) (frX_u (k := 34) (x := 1) (by decide)))
    have hne : ∀ b, b ≠ 55 → wr_uI (wr_uI J8 55 22 (tkS T s.1.2.2.1).2.2.2) 55 34 1 b = J8 b := fun b hb => by rw [wr_uI_ne hb, wr_uI_ne hb]
    have e55 : ∀ k, k ≠ 22 → k ≠ 34 → wr_uI (wr_uI J8 55 22 (tkS T s.1.2.2.1).2.2.2) 55 34 1 55 k = J8 55 k := fun k k1 k2 => by simp only [wr_uI, k1, k2, and_false, if_false]
    have e22 : wr_uI (wr_uI J8 55 22 (tkS T s.1.2.2.1).2.2.2) 55 34 1 55 22 = (tkS T s.1.2.2.1).2.2.2 := rfl
    have e34 : wr_uI (wr_uI J8 55 22 (tkS T s.1.2.2.1).2.2.2) 55 34 1 55 34 = 1 := rfl
    generalize wr_uI (wr_uI J8 55 22 (tkS T s.1.2.2.1).2.2.2) 55 34 1 = J' at hfx hne e55 e22 e34 ⊢
    obtain ⟨g1, g2, g3, g4, g5, g6, g7, g8, g9, g10, g11⟩ := hg
    refine ⟨rfl, rfl, rfl, hfx, mrd_fr hm8 (fun j hj => e55 j (by omega) (by omega)) (hne 56 (by omega)), hq, ?_, ?_, ?_, ?_, g5, ?_, ?_, ?_, ?_, ?_, ?_⟩
    · show J' 55 22 = nI (tN (tkS T s.1.2.2.1).2.2.2); rw [eN, ← hn2]; exact e22
    · show 6 ≤ tN (tkS T s.1.2.2.1).2.2.2 ∧ tN (tkS T s.1.2.2.1).2.2.2 ≤ 40; rw [eN]; exact ⟨c2, c3⟩
    · intro x hx
      rw [hne 57 (by omega), hne 58 (by omega), hne 59 (by omega)]
      exact g3 x hx
    · rw [e55 23 (by omega) (by omega)]; exact g4
    · intro k hk
      rw [hne 63 (by omega), hne 64 (by omega), hne 65 (by omega)]
      exact g6 k hk
    · exact e34
    · rw [e55 35 (by omega) (by omega)]; exact g8
    · rw [e55 36 (by omega) (by omega)]; exact g9
    · intro z
      rw [e55 45 (by omega) (by omega)]
      exact g10 z
    · intro z
      have q := g11 z
      unfold mxl at q ⊢
      rw [e55 24 (by omega) (by omega), e55 25 (by omega) (by omega), e55 26 (by omega) (by omega), e55 27 (by omega) (by omega), e55 43 (by omega) (by omega), e55 45 (by omega) (by omega), hne 69 (by omega), hne 70 (by omega)]
      exact q
  · obtain ⟨⟨x8, rfl⟩, hm8⟩ := hn8 hc
    refine wv_putI fX8_316 dX8_readSeats_13 rfl rfl rfl rfl (by first | assumption | rfl) ?_
    refine wv_aload_n dX8_readSeats_16 rfl ?_
    refine wv_iconst (v := 1) dX8_readSeats_17 (by decide) ?_
    refine wv_putI fX8_319 dX8_readSeats_18 rfl rfl rfl rfl (by first | assumption | rfl) ?_
    refine wv_ret (x := ()) rfl dX8_readSeats_21 ?_
    have e : bSeats T s = .inr (tnF (tkS T s.1.2.2.1), (tkS T s.1.2.2.1).2.1) := by
      unfold bSeats
      rw [lNm_f (show ¬ tkN (lnx T (s.1, s.2.1, s.2.2.1, true, s.2.2.2.2)).1 6 40 = true from hc)]
      rfl
    rw [e]
    refine ⟨rfl, rfl, rfl, frX_tr (frX_W hf98) (frX_tr (frX_u (by decide)) (frX_u (by decide))), ?_, ?_, hm8.2.2⟩
    · simp [wr_uI, hm8.1]
    · simp [wr_uI, hm8.2.1]

