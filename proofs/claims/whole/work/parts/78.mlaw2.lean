/-! the model: a law's line, a line -/
set_option maxHeartbeats 4000000 in
set_option maxRecDepth 100000 in
theorem x_lawFF {l : Launch} {R : wr_TR} (I : wr_TI) (L : wr_TL) (T : TP) (e : Int32 × Nat) :
    (∀ J K x, mfl J e → frX I L J K → wr_V l 4 mX8_readLaw 20 [some (.ref 55), none] [.int x, .ref 55] SH J K R 0 0 (mQ I L R T (.inr e))) ∧ (∀ J K x, mfl J e → frX I L J K → wr_V l 4 mX8_readLaw 34 [some (.ref 55), none] [.int x, .ref 55] SH J K R 0 0 (mQ I L R T (.inr e))) ∧ (∀ J K x, mfl J e → frX I L J K → wr_V l 4 mX8_readLaw 48 [some (.ref 55), none] [.int x, .ref 55] SH J K R 0 0 (mQ I L R T (.inr e))) ∧ (∀ J K x, mfl J e → frX I L J K → wr_V l 4 mX8_readLaw 62 [some (.ref 55), none] [.int x, .ref 55] SH J K R 0 0 (mQ I L R T (.inr e))) ∧ ∀ J K, mfl J e → frX I L J K → wr_V l 4 mX8_readLaw 72 [some (.ref 55), none] [] SH J K R 0 0 (mQ I L R T (.inr e)) := by
  have f72 : ∀ J K, mfl J e → frX I L J K → wr_V l 4 mX8_readLaw 72 [some (.ref 55), none] [] SH J K R 0 0 (mQ I L R T (.inr e)) := by
    intro J K h hf
    have hx : frX I L (wr_uI (wr_uI (wr_uI J 55 43 0) 55 47 0) 55 48 0) K := frX_tr hf (frX_tr (frX_u (by decide)) (frX_tr (frX_u (by decide)) (frX_u (by decide))))
    have hm : mfl (wr_uI (wr_uI (wr_uI J 55 43 0) 55 47 0) 55 48 0) e := mfl_u (mfl_u (mfl_u h (by omega) (by omega)) (by omega) (by omega)) (by omega) (by omega)
    refine wv_aload_n dX8_readLaw_72 rfl ?_
    refine wv_iconst (v := 0) dX8_readLaw_73 (by decide) ?_
    refine wv_putI fX8_221 dX8_readLaw_74 rfl rfl rfl rfl (by first | assumption | rfl) ?_
    refine wv_aload_n dX8_readLaw_77 rfl ?_
    refine wv_iconst (v := 0) dX8_readLaw_78 (by decide) ?_
    refine wv_putI fX8_224 dX8_readLaw_79 rfl rfl rfl rfl (by first | assumption | rfl) ?_
    refine wv_aload_n dX8_readLaw_82 rfl ?_
    refine wv_iconst (v := 0) dX8_readLaw_83 (by decide) ?_
    refine wv_putI fX8_227 dX8_readLaw_84 rfl rfl rfl rfl (by first | assumption | rfl) ?_
    refine wv_iconst (v := 0) dX8_readLaw_87 (by decide) ?_
    refine wv_istore_k (i := 1) dX8_readLaw_88 rfl (by decide) ?_
    exact wv_le (by simp [wr_leq, wr_s1, wr_s2, wr_wide]) (x_lawF _ _ 0 (by rw [hm.1]; exact hm.2.2) _ ⟨rfl, rfl, rfl, hx, hm⟩)
  have f62 : ∀ J K x, mfl J e → frX I L J K → wr_V l 4 mX8_readLaw 62 [some (.ref 55), none] [.int x, .ref 55] SH J K R 0 0 (mQ I L R T (.inr e)) := by
    intro J K x h hf
    refine wv_putI fX8_305 dX8_readLaw_62 rfl rfl rfl rfl (by first | assumption | rfl) ?_
    refine wv_aload_n dX8_readLaw_65 rfl ?_
    refine wv_ldc2_w nX8_308 dX8_readLaw_66 ?_
    refine wv_v1u oX8_want kX8_213 dX8_readLaw_69 (by omega) (by first | assumption | rfl) ⟨rfl, by decide⟩ (Nat.le_of_ble_eq_true rfl) (Nat.le_of_ble_eq_true rfl) (x_want9 (by rw [(mfl_u h (by omega) (by omega)).1]; exact h.2.2) _) ?_
    exact f72 _ _ (mfl_u h (by omega) (by omega)) (frX_tr hf (frX_u (by decide)))
  have f48 : ∀ J K x, mfl J e → frX I L J K → wr_V l 4 mX8_readLaw 48 [some (.ref 55), none] [.int x, .ref 55] SH J K R 0 0 (mQ I L R T (.inr e)) := by
    intro J K x h hf
    refine wv_putI fX8_300 dX8_readLaw_48 rfl rfl rfl rfl (by first | assumption | rfl) ?_
    refine wv_aload_n dX8_readLaw_51 rfl ?_
    refine wv_aload_n dX8_readLaw_52 rfl ?_
    refine wv_ldc2_w nX8_303 dX8_readLaw_53 ?_
    refine wv_iconst (v := 0) dX8_readLaw_56 (by decide) ?_
    refine wv_bipush (v := 9) dX8_readLaw_57 (by decide) ?_
    refine wv_v3e oX8_told kX8_286 dX8_readLaw_59 (by omega) (by first | assumption | rfl) ⟨rfl, by decide⟩ (Nat.le_of_ble_eq_true rfl) (Nat.le_of_ble_eq_true rfl) (x_told9 (by rw [(mfl_u h (by omega) (by omega)).1]; exact h.2.2) _ _ _) ?_
    exact f62 _ _ _ (mfl_u h (by omega) (by omega)) (frX_tr hf (frX_u (by decide)))
  have f34 : ∀ J K x, mfl J e → frX I L J K → wr_V l 4 mX8_readLaw 34 [some (.ref 55), none] [.int x, .ref 55] SH J K R 0 0 (mQ I L R T (.inr e)) := by
    intro J K x h hf
    refine wv_putI fX8_295 dX8_readLaw_34 rfl rfl rfl rfl (by first | assumption | rfl) ?_
    refine wv_aload_n dX8_readLaw_37 rfl ?_
    refine wv_aload_n dX8_readLaw_38 rfl ?_
    refine wv_ldc2_w nX8_298 dX8_readLaw_39 ?_
    refine wv_iconst (v := 1) dX8_readLaw_42 (by decide) ?_
    refine wv_bipush (v := 9) dX8_readLaw_43 (by decide) ?_
    refine wv_v3e oX8_told kX8_286 dX8_readLaw_45 (by omega) (by first | assumption | rfl) ⟨rfl, by decide⟩ (Nat.le_of_ble_eq_true rfl) (Nat.le_of_ble_eq_true rfl) (x_told9 (by rw [(mfl_u h (by omega) (by omega)).1]; exact h.2.2) _ _ _) ?_
    exact f48 _ _ _ (mfl_u h (by omega) (by omega)) (frX_tr hf (frX_u (by decide)))
  have f20 : ∀ J K x, mfl J e → frX I L J K → wr_V l 4 mX8_readLaw 20 [some (.ref 55), none] [.int x, .ref 55] SH J K R 0 0 (mQ I L R T (.inr e)) := by
    intro J K x h hf
    refine wv_putI fX8_290 dX8_readLaw_20 rfl rfl rfl rfl (by first | assumption | rfl) ?_
    refine wv_aload_n dX8_readLaw_23 rfl ?_
    refine wv_aload_n dX8_readLaw_24 rfl ?_
    refine wv_ldc2_w nX8_293 dX8_readLaw_25 ?_
    refine wv_iconst (v := 0) dX8_readLaw_28 (by decide) ?_
    refine wv_bipush (v := 20) dX8_readLaw_29 (by decide) ?_
    refine wv_v3e oX8_told kX8_286 dX8_readLaw_31 (by omega) (by first | assumption | rfl) ⟨rfl, by decide⟩ (Nat.le_of_ble_eq_true rfl) (Nat.le_of_ble_eq_true rfl) (x_told9 (by rw [(mfl_u h (by omega) (by omega)).1]; exact h.2.2) _ _ _) ?_
    exact f34 _ _ _ (mfl_u h (by omega) (by omega)) (frX_tr hf (frX_u (by decide)))
  exact ⟨f20, f34, f48, f62, f72⟩

def lwG (I : wr_TI) (a b c d : Int32) : wr_TI := wr_uI (wr_uI (wr_uI (wr_uI (wr_uI (wr_uI (wr_uI (wr_uI I 55 36 1) 55 24 a) 55 25 b) 55 26 c) 55 27 d) 55 43 0) 55 47 0) 55 48 0
theorem frX_lw {I : wr_TI} {L : wr_TL} {a b c d : Int32} : frX I L (lwG I a b c d) L := frX_tr (frX_u (by decide)) (frX_tr (frX_u (by decide)) (frX_tr (frX_u (by decide)) (frX_tr (frX_u (by decide)) (frX_tr (frX_u (by decide)) (frX_tr (frX_u (by decide)) (frX_tr (frX_u (by decide)) (frX_u (by decide))))))))
theorem mxg_lw {I J J' : wr_TI} {L K K' : wr_TL} {T : TP} {s : XS} {a b d : Int32} {c : Nat} {p : PS} (h : mxg I s) (hw : frW (lwG I a b (nI c) d) L J K) (hy : frY J K J' K') (hM : yM J' K' T p []) (hu : p.2.2 ≤ 30) (hn : p.2.1.2 ≤ 259) : mxg J' (p.1, sCo p.2.1 (sSh d (sSe c (sRe b (sUp a s.2.1)))), p.2.2, s.2.2.2.1, s.2.2.2.2.1, true) := by
  obtain ⟨g1, g2, g3, g4, g5, g6, g7, g8, g9, g10, g11⟩ := h
  have hb : ∀ q, q ≠ 55 → q ≠ 69 → q ≠ 70 → q ≠ 73 → J' q = I q := fun q q1 q2 q3 q4 => by
    rw [hy.1 q q1 q2 q3 q4, hw.1 q q1]
    unfold lwG
    rw [wr_uI_ne q1, wr_uI_ne q1, wr_uI_ne q1, wr_uI_ne q1, wr_uI_ne q1, wr_uI_ne q1, wr_uI_ne q1, wr_uI_ne q1]
  have hk : ∀ k, 10 ≤ k → k ≠ 43 → k ≠ 45 → k ≠ 47 → k ≠ 48 → J' 55 k = lwG I a b (nI c) d 55 k := fun k k1 k2 k3 k4 k5 => by
    rw [hy.2.1 k (by omega) (by omega) (by omega) (by omega) (by omega) (by omega) k2 k3 k4 k5, frW_55 hw k1]
  obtain ⟨m1, m2, m3, m4, m5, m6, m7⟩ := hM
  refine ⟨?_, g2, ?_, ?_, g5, ?_, ?_, ?_, ?_, (fun z => by cases z), fun _ => ⟨?_, ?_, ?_, ?_, m2, m3, m4, hn, hu⟩⟩
  · rw [hk 22 (by omega) (by omega) (by omega) (by omega) (by omega), show lwG I a b (nI c) d 55 22 = I 55 22 by simp [lwG, wr_uI]]; exact g1
  · intro q hq
    rw [hb 57 (by omega) (by omega) (by omega) (by omega), hb 58 (by omega) (by omega) (by omega) (by omega), hb 59 (by omega) (by omega) (by omega) (by omega)]
    exact g3 q hq
  · rw [hk 23 (by omega) (by omega) (by omega) (by omega) (by omega), show lwG I a b (nI c) d 55 23 = I 55 23 by simp [lwG, wr_uI]]; exact g4
  · intro q hq
    rw [hb 63 (by omega) (by omega) (by omega) (by omega), hb 64 (by omega) (by omega) (by omega) (by omega), hb 65 (by omega) (by omega) (by omega) (by omega)]
    exact g6 q hq
  · rw [hk 34 (by omega) (by omega) (by omega) (by omega) (by omega), show lwG I a b (nI c) d 55 34 = I 55 34 by simp [lwG, wr_uI]]; exact g7
  · rw [hk 35 (by omega) (by omega) (by omega) (by omega) (by omega), show lwG I a b (nI c) d 55 35 = I 55 35 by simp [lwG, wr_uI]]; exact g8
  · rw [hk 36 (by omega) (by omega) (by omega) (by omega) (by omega)]; simp [lwG, wr_uI, bI]
  · rw [hk 24 (by omega) (by omega) (by omega) (by omega) (by omega)]; simp [lwG, wr_uI, sCo, sSh, sSe, sRe, sUp, gUp]
  · rw [hk 25 (by omega) (by omega) (by omega) (by omega) (by omega)]; simp [lwG, wr_uI, sCo, sSh, sSe, sRe, sUp, gRe]
  · rw [hk 26 (by omega) (by omega) (by omega) (by omega) (by omega)]; simp [lwG, wr_uI, sCo, sSh, sSe, sRe, sUp, gSe]
  · rw [hk 27 (by omega) (by omega) (by omega) (by omega) (by omega)]; simp [lwG, wr_uI, sCo, sSh, sSe, sRe, sUp, gSh]
set_option maxHeartbeats 4000000 in
set_option maxRecDepth 100000 in
theorem x_lawX {l : Launch} {R : wr_TR} (hR : wr_RC R) (I : wr_TI) (L : wr_TL) (T : TP) (s : XS) (h3 : mxg I s) (hl : s.2.2.2.2.2 = false) (a b d : Int32) (c : Nat) (k5 : TK) (h5 : isWd T k5 12 = true) (J : wr_TI) (K : wr_TL) (hw : frW (lwG I a b (nI c) d) L J K) (hm : mrd J K T (tkS T k5.2.2.1)) (hq : tkQ (tkS T k5.2.2.1)) : wr_V l 4 mX8_readLaw 89 [some (.ref 55), some (.int (nI 0))] [] SH J K R 0 0 (mQ I L R T (bE T k5 (sSh d (sSe c (sRe b (sUp a s.2.1)))) (s.2.2.2.1, s.2.2.2.2.1))) := by
  have eb : bE T k5 (sSh d (sSe c (sRe b (sUp a s.2.1)))) (s.2.2.2.1, s.2.2.2.2.1) = (match (pEO T 7).1 (tkS T k5.2.2.1, (gC s.2.1, 0), 0) with
    | .inl p => if isS T p.1 59 = true then .inl (p.1, sCo p.2.1 (sSh d (sSe c (sRe b (sUp a s.2.1)))), p.2.2, s.2.2.2.1, s.2.2.2.2.1, true) else .inr (rfF p.1, p.1.2.1)
    | .inr e => .inr e) := by unfold bE; rw [if_pos h5]; rfl
  rw [eb]
  generalize tkS T k5.2.2.1 = k6 at hm hq ⊢
  have hM : yM J K T (k6, (gC s.2.1, 0), 0) [] := by
    refine ⟨hm, ?_, fun k hk => (by simp at hk), ?_, ?_, trivial, ?_⟩
    · rw [frW_55 hw (by omega)]; simp [lwG, wr_uI, nI_0]
    · rw [frW_55 hw (by omega), show lwG I a b (nI c) d 55 45 = I 55 45 by simp [lwG, wr_uI], h3.2.2.2.2.2.2.2.2.2.1 hl]; rfl
    · rw [frW_55 hw (by omega)]; simp [lwG, wr_uI, nI_0]
    · rw [frW_55 hw (by omega)]; simp [lwG, wr_uI, nI_0, ynd]
  have hiv : yiv (k6, (gC s.2.1, 0), 0) [] 0 := by
    refine ⟨by simp, fun w hw => by simp at hw, hq, ?_⟩
    simp
  have hyl := ylaw (T := T) (k6, (gC s.2.1, 0), 0) (by simp)
  have hfa : ∀ e, yR T ((k6, (gC s.2.1, 0), 0), [], 0) (.inr e) → wr_V l 4 mX8_readLaw 89 [some (.ref 55), some (.int (nI 0))] [] SH J K R 0 0 (mQ I L R T (.inr e)) := by
    rintro e ⟨n, hn⟩
    refine wr_V.imp ((x_lawL hR T n J K ((k6, (gC s.2.1, 0), 0), [], 0) hM hiv (by simp)).1 e hn) (fun v s' I' L' R' h => ?_)
    obtain ⟨q1, q2, q3, q4, q5⟩ := h
    exact ⟨q1, q2, q3, frX_tr frX_lw (frX_tr (frX_W hw) (frX_Y q4)), q5⟩
  cases hp : (pEO T 7).1 (k6, (gC s.2.1, 0), 0) with
  | inr e => exact hfa e (hyl.2 e hp)
  | inl p =>
    obtain ⟨y1, y2, y3⟩ := hyl.1 p hp
    by_cases h59 : isS T p.1 59 = true
    · obtain ⟨s1, P, ⟨n, hn⟩, hfin, hst⟩ := y2 h59
      simp only [if_pos h59]
      refine wr_V.imp ((x_lawL hR T n J K ((k6, (gC s.2.1, 0), 0), [], 0) hM hiv (by simp)).2 (s1, P, 2) hn hfin) (fun v s' I' L' R' h => ?_)
      obtain ⟨q1, q2, q3, q4, q5, q6, q7⟩ := h
      obtain ⟨r1, r2, -, -⟩ := ystl_n (r := 0) P s1 (by have : s1.2.1.2 + P.length ≤ 259 := q6; omega)
      dsimp only at q5 q6 q7
      rw [hst] at q7 r1 r2
      have hlen : p.2.1.2 ≤ 259 := by have : p.2.1.2 + 0 = s1.2.1.2 + P.length := r1; omega
      have hq1 : tkQ p.1 := by have : p.1 = s1.1 := r2; rw [this]; exact q5
      exact ⟨q1, q2, q3, frX_tr frX_lw (frX_tr (frX_W hw) (frX_Y q4)), q7.1, hq1, mxg_lw h3 hw q4 q7 y1 hlen⟩
    · simp only [if_neg h59]
      exact hfa _ (y3 h59)
set_option maxHeartbeats 4000000 in
set_option maxRecDepth 100000 in
theorem x_law {l : Launch} {I : wr_TI} {L : wr_TL} {R : wr_TR} (hR : wr_RC R) (T : TP) (s : XS) (h : mxV I L T s) (h4 : ¬ s.1.1 = 4) (hl : s.2.2.2.2.2 = false) : wr_P l 4 mX8_readLaw [.ref 55] SH I L R (mQ I L R T (bLaw T s)) := by
  obtain ⟨h1, h2, h3⟩ := h
  have hT := h1.2.2.2.2.2.1
  have hF := fun e => x_lawFF (l := l) (R := R) I L T e
  have hk0 : (tkS T s.1.2.2.1).2.2.1 ≤ 800 := (tkS_o hT h1.2.1.1.2.2).2.2
  have e9 : bLaw T s = tbd (tld T 8 1 9 (tkS T s.1.2.2.1)) (fun a k1 => tbd (tld T 9 0 20 k1) (fun b k2 => tbd (tld T 10 1 9 k2) (fun c k3 => tbd (tld T 11 0 9 k3) (fun d k4 => bE T k4 (sSh d (sSe (tN c) (sRe b (sUp a s.2.1)))) (s.2.2.2.1, s.2.2.2.2.1))))) := rfl
  rw [e9]
  have hfx0 : frX I L (wr_uI I 55 36 1) L := frX_u (by decide)
  refine wv_pad 1 ?_
  show wr_V l 4 mX8_readLaw 0 [some (.ref 55), none] [] SH I L R 0 0 _
  refine wv_aload_n dX8_readLaw_0 rfl ?_
  refine wv_v0 oX8_token kX8_210 dX8_readLaw_1 (by omega) (by first | assumption | rfl) ⟨rfl, by decide⟩ (Nat.le_of_ble_eq_true rfl) (Nat.le_of_ble_eq_true rfl) (x_tok hR h1 h4) (fun v9 s9 J9 L9 R9 h9 => ?_)
  obtain ⟨rfl, rfl, rfl, hm9, hf9⟩ := h9
  generalize tkS T s.1.2.2.1 = k1 at hm9 hk0 ⊢
  have hw9 : frW (wr_uI I 55 36 1) L (wr_uI J9 55 36 1) L9 := frW_wr hf9
  refine wv_aload_n dX8_readLaw_4 rfl ?_
  refine wv_iconst (v := 1) dX8_readLaw_5 (by decide) ?_
  refine wv_putI fX8_280 dX8_readLaw_6 rfl rfl rfl rfl (by first | assumption | rfl) ?_
  refine wv_aload_n dX8_readLaw_9 rfl ?_
  refine wv_aload_n dX8_readLaw_10 rfl ?_
  refine wv_ldc2_w nX8_284 dX8_readLaw_11 ?_
  refine wv_iconst (v := 1) dX8_readLaw_14 (by decide) ?_
  refine wv_bipush (v := 9) dX8_readLaw_15 (by decide) ?_
  refine wv_v3 oX8_told kX8_286 dX8_readLaw_17 (by omega) (by first | assumption | rfl) ⟨rfl, by decide⟩ (Nat.le_of_ble_eq_true rfl) (Nat.le_of_ble_eq_true rfl) (x_told hR (mrd_u hm9 (by omega)) 8 (by decide) _ (by decide +kernel) 1 9) (fun v8 s8 J8 L8 R8 h8 => ?_)
  obtain ⟨rfl, rfl, hf8, h8⟩ := h8
  have hc8 := frW_tr hw9 hf8
  cases ht8 : tld T 8 1 9 k1 with
  | inr e =>
    rw [ht8] at h8
    obtain ⟨⟨x8, rfl⟩, hm8⟩ := h8
    exact (hF e).1 _ _ _ hm8 (frX_tr hfx0 (frX_W hc8))
  | inl p8 =>
    rw [ht8] at h8
    obtain ⟨rfl, hm8⟩ := h8
    obtain ⟨hq8, hv8, -, -⟩ := tld_q hT hk0 ht8
    obtain ⟨a, k2⟩ := p8
    dsimp only at hm8 hq8 hv8
    dsimp only [tbd]
    have hw8 : frW (wr_uI (wr_uI I 55 36 1) 55 24 a) L (wr_uI J8 55 24 a) L8 := frW_wr hc8
    have hfx1 : frX I L (wr_uI (wr_uI I 55 36 1) 55 24 a) L := frX_tr hfx0 (frX_u (by decide))
    have hk1 : k2.2.2.1 ≤ 800 := hm8.2.1.1.2.2
    refine wv_putI fX8_290 dX8_readLaw_20 rfl rfl rfl rfl (by first | assumption | rfl) ?_
    refine wv_aload_n dX8_readLaw_23 rfl ?_
    refine wv_aload_n dX8_readLaw_24 rfl ?_
    refine wv_ldc2_w nX8_293 dX8_readLaw_25 ?_
    refine wv_iconst (v := 0) dX8_readLaw_28 (by decide) ?_
    refine wv_bipush (v := 20) dX8_readLaw_29 (by decide) ?_
    refine wv_v3 oX8_told kX8_286 dX8_readLaw_31 (by omega) (by first | assumption | rfl) ⟨rfl, by decide⟩ (Nat.le_of_ble_eq_true rfl) (Nat.le_of_ble_eq_true rfl) (x_told hR (mrd_u hm8 (by omega)) 9 (by decide) _ (by decide +kernel) 0 20) (fun v7 s7 J7 L7 R7 h7 => ?_)
    obtain ⟨rfl, rfl, hf7, h7⟩ := h7
    have hc7 := frW_tr hw8 hf7
    cases ht7 : tld T 9 0 20 k2 with
    | inr e =>
      rw [ht7] at h7
      obtain ⟨⟨x7, rfl⟩, hm7⟩ := h7
      exact (hF e).2.1 _ _ _ hm7 (frX_tr hfx1 (frX_W hc7))
    | inl p7 =>
      rw [ht7] at h7
      obtain ⟨rfl, hm7⟩ := h7
      obtain ⟨hq7, hv7, -, -⟩ := tld_q hT hk1 ht7
      obtain ⟨b, k3⟩ := p7
      dsimp only at hm7 hq7 hv7
      dsimp only [tbd]
      have hw7 : frW (wr_uI (wr_uI (wr_uI I 55 36 1) 55 24 a) 55 25 b) L (wr_uI J7 55 25 b) L7 := frW_wr hc7
      have hfx2 : frX I L (wr_uI (wr_uI (wr_uI I 55 36 1) 55 24 a) 55 25 b) L := frX_tr hfx1 (frX_u (by decide))
      have hk2 : k3.2.2.1 ≤ 800 := hm7.2.1.1.2.2
      refine wv_putI fX8_295 dX8_readLaw_34 rfl rfl rfl rfl (by first | assumption | rfl) ?_
      refine wv_aload_n dX8_readLaw_37 rfl ?_
      refine wv_aload_n dX8_readLaw_38 rfl ?_
      refine wv_ldc2_w nX8_298 dX8_readLaw_39 ?_
      refine wv_iconst (v := 1) dX8_readLaw_42 (by decide) ?_
      refine wv_bipush (v := 9) dX8_readLaw_43 (by decide) ?_
      refine wv_v3 oX8_told kX8_286 dX8_readLaw_45 (by omega) (by first | assumption | rfl) ⟨rfl, by decide⟩ (Nat.le_of_ble_eq_true rfl) (Nat.le_of_ble_eq_true rfl) (x_told hR (mrd_u hm7 (by omega)) 10 (by decide) _ (by decide +kernel) 1 9) (fun v6 s6 J6 L6 R6 h6 => ?_)
      obtain ⟨rfl, rfl, hf6, h6⟩ := h6
      have hc6 := frW_tr hw7 hf6
      cases ht6 : tld T 10 1 9 k3 with
      | inr e =>
        rw [ht6] at h6
        obtain ⟨⟨x6, rfl⟩, hm6⟩ := h6
        exact (hF e).2.2.1 _ _ _ hm6 (frX_tr hfx2 (frX_W hc6))
      | inl p6 =>
        rw [ht6] at h6
        obtain ⟨rfl, hm6⟩ := h6
        obtain ⟨hq6, hv6, -, -⟩ := tld_q hT hk2 ht6
        obtain ⟨c, k4⟩ := p6
        dsimp only at hm6 hq6 hv6
        dsimp only [tbd]
        obtain ⟨c', hc', rfl⟩ := hv6
        have hw6 : frW (wr_uI (wr_uI (wr_uI (wr_uI I 55 36 1) 55 24 a) 55 25 b) 55 26 (nI c')) L (wr_uI J6 55 26 (nI c')) L6 := frW_wr hc6
        have hfx3 : frX I L (wr_uI (wr_uI (wr_uI (wr_uI I 55 36 1) 55 24 a) 55 25 b) 55 26 (nI c')) L := frX_tr hfx2 (frX_u (by decide))
        have hk3 : k4.2.2.1 ≤ 800 := hm6.2.1.1.2.2
        refine wv_putI fX8_300 dX8_readLaw_48 rfl rfl rfl rfl (by first | assumption | rfl) ?_
        refine wv_aload_n dX8_readLaw_51 rfl ?_
        refine wv_aload_n dX8_readLaw_52 rfl ?_
        refine wv_ldc2_w nX8_303 dX8_readLaw_53 ?_
        refine wv_iconst (v := 0) dX8_readLaw_56 (by decide) ?_
        refine wv_bipush (v := 9) dX8_readLaw_57 (by decide) ?_
        refine wv_v3 oX8_told kX8_286 dX8_readLaw_59 (by omega) (by first | assumption | rfl) ⟨rfl, by decide⟩ (Nat.le_of_ble_eq_true rfl) (Nat.le_of_ble_eq_true rfl) (x_told hR (mrd_u hm6 (by omega)) 11 (by decide) _ (by decide +kernel) 0 9) (fun v5 s5 J5 L5 R5 h5 => ?_)
        obtain ⟨rfl, rfl, hf5, h5⟩ := h5
        have hc5 := frW_tr hw6 hf5
        cases ht5 : tld T 11 0 9 k4 with
        | inr e =>
          rw [ht5] at h5
          obtain ⟨⟨x5, rfl⟩, hm5⟩ := h5
          exact (hF e).2.2.2.1 _ _ _ hm5 (frX_tr hfx3 (frX_W hc5))
        | inl p5 =>
          rw [ht5] at h5
          obtain ⟨rfl, hm5⟩ := h5
          obtain ⟨hq5, hv5, -, -⟩ := tld_q hT hk3 ht5
          obtain ⟨d, k5⟩ := p5
          dsimp only at hm5 hq5 hv5
          dsimp only [tbd]
          have hw5 : frW (wr_uI (wr_uI (wr_uI (wr_uI (wr_uI I 55 36 1) 55 24 a) 55 25 b) 55 26 (nI c')) 55 27 d) L (wr_uI J5 55 27 d) L5 := frW_wr hc5
          have hfx4 : frX I L (wr_uI (wr_uI (wr_uI (wr_uI (wr_uI I 55 36 1) 55 24 a) 55 25 b) 55 26 (nI c')) 55 27 d) L := frX_tr hfx3 (frX_u (by decide))
          have hk4 : k5.2.2.1 ≤ 800 := hm5.2.1.1.2.2
          refine wv_putI fX8_305 dX8_readLaw_62 rfl rfl rfl rfl (by first | assumption | rfl) ?_
          refine wv_aload_n dX8_readLaw_65 rfl ?_
          refine wv_ldc2_w nX8_308 dX8_readLaw_66 ?_
          refine wv_v1 oX8_want kX8_213 dX8_readLaw_69 (by omega) (by first | assumption | rfl) ⟨rfl, by decide⟩ (Nat.le_of_ble_eq_true rfl) (Nat.le_of_ble_eq_true rfl) (x_want hR (mrd_u hm5 (by omega)) 12 (by decide) _ (by decide +kernel)) (fun v4 s4 J4 L4 R4 h4' => ?_)
          obtain ⟨rfl, rfl, rfl, hf4, hy4, hn4⟩ := h4'
          have hc4 := frW_tr hw5 hf4
          rw [tN_nI (show c' < 2 ^ 31 by omega)]
          by_cases hwd : isWd T k5 12 = true
          · have hm4 := hy4 hwd
            have hw4 : frW (lwG I a b (nI c') d) L (wr_uI (wr_uI (wr_uI J4 55 43 0) 55 47 0) 55 48 0) L4 := frW_wr (frW_wr (frW_wr hc4))
            refine wv_aload_n dX8_readLaw_72 rfl ?_
            refine wv_iconst (v := 0) dX8_readLaw_73 (by decide) ?_
            refine wv_putI fX8_221 dX8_readLaw_74 rfl rfl rfl rfl (by first | assumption | rfl) ?_
            refine wv_aload_n dX8_readLaw_77 rfl ?_
            refine wv_iconst (v := 0) dX8_readLaw_78 (by decide) ?_
            refine wv_putI fX8_224 dX8_readLaw_79 rfl rfl rfl rfl (by first | assumption | rfl) ?_
            refine wv_aload_n dX8_readLaw_82 rfl ?_
            refine wv_iconst (v := 0) dX8_readLaw_83 (by decide) ?_
            refine wv_putI fX8_227 dX8_readLaw_84 rfl rfl rfl rfl (by first | assumption | rfl) ?_
            refine wv_iconst (v := nI 0) dX8_readLaw_87 rfl ?_
            refine wv_istore_k (i := 1) dX8_readLaw_88 rfl (by decide) ?_
            exact wv_le (by simp [wr_leq, wr_s1, wr_s2, wr_wide]) (x_lawX hR I L T s h3 hl a b d c' k5 hwd _ _ hw4 (mrd_u (mrd_u (mrd_u hm4 (by omega)) (by omega)) (by omega)) (tkS_q hT hk4))
          · have hm4 := hn4 hwd
            unfold bE
            rw [if_neg hwd]
            exact (hF _).2.2.2.2 _ _ hm4 (frX_tr hfx4 (frX_W hc4))

set_option maxHeartbeats 4000000 in
set_option maxRecDepth 100000 in
theorem x_tail {l : Launch} {R : wr_TR} (hR : wr_RC R) (I : wr_TI) (L : wr_TL) (T : TP) (r : XR) (J : wr_TI) (K : wr_TL) (hf : frX I L J K) (hr : match r with | .inl s => mxV J K T s | .inr e => mfl J e) : wr_V l 5 mX8_readLine 123 [some (.ref 55)] [] SH J K R 0 0 (mQ I L R T (lbd r (lSg T 59))) := by
  cases r with
  | inr e =>
    have h : mfl J e := hr
    have n0 : ¬ J 55 2 = 0 := fun z => by have := h.2.2; rw [← h.1, z] at this; exact absurd this (by decide)
    refine wv_aload_n dX8_readLine_123 rfl ?_
    refine wv_getI fX8_200 dX8_readLine_124 rfl (by first | assumption | rfl) ?_
    refine wv_if_ne (tgt := 144) dX8_readLine_127 (by decide) (fun h127 => ?_) (fun h127 => absurd h127 n0)
    refine wv_aload_n dX8_readLine_144 rfl ?_
    refine wv_getI fX8_200 dX8_readLine_145 rfl (by first | assumption | rfl) ?_
    refine wv_if_ne (tgt := 155) dX8_readLine_148 (by decide) (fun h148 => ?_) (fun h148 => absurd h148 n0)
    refine wv_ret (x := ()) rfl dX8_readLine_155 ?_
    exact ⟨rfl, rfl, rfl, hf, h⟩
  | inl s =>
    obtain ⟨h1, h2, h3⟩ : mxV J K T s := hr
    have h0 := h1.2.2.1
    have s59 := (srt h1.1 h1.2.1).2.2.2.2 59 (by decide)
    rw [lbd_l]
    by_cases hs : isS T s.1 59 = true
    · rw [lSg_t hs]
      have h4 : ¬ s.1.1 = 4 := by rw [isS_3 hs]; omega
      refine wv_aload_n dX8_readLine_123 rfl ?_
      refine wv_getI fX8_200 dX8_readLine_124 rfl (by first | assumption | rfl) ?_
      refine wv_if_ne (tgt := 144) dX8_readLine_127 (by decide) (fun h127 => absurd h0 h127) (fun h127 => ?_)
      refine wv_aload_n dX8_readLine_130 rfl ?_
      refine wv_getI fX8_187 dX8_readLine_131 rfl (by first | assumption | rfl) ?_
      refine wv_bipush (v := 59) dX8_readLine_134 (by decide) ?_
      refine wv_icmp_eq (tgt := 144) dX8_readLine_136 (by decide) (fun h136 => ?_) (fun h136 => absurd (s59.mpr hs) h136)
      refine wv_aload_n dX8_readLine_144 rfl ?_
      refine wv_getI fX8_200 dX8_readLine_145 rfl (by first | assumption | rfl) ?_
      refine wv_if_ne (tgt := 155) dX8_readLine_148 (by decide) (fun h148 => absurd h0 h148) (fun h148 => ?_)
      refine wv_aload_n dX8_readLine_151 rfl ?_
      refine wv_v0 oX8_token kX8_210 dX8_readLine_152 (by omega) (by first | assumption | rfl) ⟨rfl, by decide⟩ (Nat.le_of_ble_eq_true rfl) (Nat.le_of_ble_eq_true rfl) (x_tok hR h1 h4) (fun v9 s9 J9 L9 R9 h9 => ?_)
      obtain ⟨rfl, rfl, rfl, hm9, hf9⟩ := h9
      refine wv_ret (x := ()) rfl dX8_readLine_155 ?_
      exact ⟨rfl, rfl, rfl, frX_tr hf (frX_W hf9), hm9, tkS_q h1.2.2.2.2.2.1 h1.2.1.1.2.2, mxg_W h3 hf9⟩
    · rw [lSg_f hs]
      refine wv_aload_n dX8_readLine_123 rfl ?_
      refine wv_getI fX8_200 dX8_readLine_124 rfl (by first | assumption | rfl) ?_
      refine wv_if_ne (tgt := 144) dX8_readLine_127 (by decide) (fun h127 => absurd h0 h127) (fun h127 => ?_)
      refine wv_aload_n dX8_readLine_130 rfl ?_
      refine wv_getI fX8_187 dX8_readLine_131 rfl (by first | assumption | rfl) ?_
      refine wv_bipush (v := 59) dX8_readLine_134 (by decide) ?_
      refine wv_icmp_eq (tgt := 144) dX8_readLine_136 (by decide) (fun h136 => absurd h136 (fun z => hs (s59.mp z))) (fun h136 => ?_)
      refine wv_aload_n dX8_readLine_139 rfl ?_
      refine wv_iconst (v := 2) dX8_readLine_140 (by decide) ?_
      refine wv_v1 oX8_wrong kX8_207 dX8_readLine_141 (by omega) (by first | assumption | rfl) ⟨rfl, by decide⟩ (Nat.le_of_ble_eq_true rfl) (Nat.le_of_ble_eq_true rfl) (x_wrong h1 2 (by decide)) (fun v9 s9 J9 L9 R9 h9 => ?_)
      obtain ⟨rfl, rfl, rfl, rfl, hm9, hf9⟩ := h9
      refine wv_aload_n dX8_readLine_144 rfl ?_
      refine wv_getI fX8_200 dX8_readLine_145 rfl (by first | assumption | rfl) ?_
      refine wv_if_ne (tgt := 155) dX8_readLine_148 (by decide) (fun h148 => ?_) (fun h148 => absurd h148 (fun z => by have := hm9.2.2; rw [← hm9.1, z] at this; exact absurd this (by decide)))
      refine wv_ret (x := ()) rfl dX8_readLine_155 ?_
      exact ⟨rfl, rfl, rfl, frX_tr hf (frX_W hf9), hm9⟩

theorem encW_inj : ∀ i, i < 22 → ∀ j, j < 22 → encW i = encW j → i = j := by decide +kernel
theorem wd_n {T : TP} {k : TK} (hG : tkG T k) {i j : Nat} (hi : i < 22) (hj : j < 22) (hij : i ≠ j) (h1 : isWd T k i = true) : ¬ isWd T k j = true := fun h2 => hij (encW_inj i hi j hj (wd_u hG hi hj h1 h2))
set_option maxHeartbeats 4000000 in
set_option maxRecDepth 100000 in
theorem x_line {l : Launch} {I : wr_TI} {L : wr_TL} {R : wr_TR} (hR : wr_RC R) (T : TP) (s : XS) (h : mxV I L T s) : wr_P l 5 mX8_readLine [.ref 55] SH I L R (mQ I L R T (lLine T s)) := by
  have hV := h
  obtain ⟨h1, h2, h3⟩ := h
  have hG := h1.2.1
  obtain ⟨-, -, -, g4, -, -, g7, g8, g9, -, -⟩ := id h3
  have g118 : wr_V l 5 mX8_readLine 118 [some (.ref 55)] [] SH I L R 0 0 (mQ I L R T (lrf s)) := by
    refine wv_aload_n dX8_readLine_118 rfl ?_
    refine wv_iconst (v := 2) dX8_readLine_119 (by decide) ?_
    refine wv_v1 oX8_wrong kX8_207 dX8_readLine_120 (by omega) (by first | assumption | rfl) ⟨rfl, by decide⟩ (Nat.le_of_ble_eq_true rfl) (Nat.le_of_ble_eq_true rfl) (x_wrong h1 2 (by decide)) (fun v9 s9 J9 L9 R9 h9 => ?_)
    obtain ⟨rfl, rfl, rfl, rfl, hm9, hf9⟩ := h9
    exact x_tail hR _ _ T (.inr (rfF s.1, s.1.2.1)) _ _ (frX_W hf9) hm9
  refine wv_pad 0 ?_
  show wr_V l 5 mX8_readLine 0 [some (.ref 55)] [] SH I L R 0 0 _
  unfold lLine
  by_cases hw : isWd T s.1 0 = true
  · rw [if_pos hw, lSeats_b]
    have h4 : ¬ s.1.1 = 4 := by rw [(isW_1 hw).1]; omega
    by_cases hb : s.2.2.2.1 = true ∨ s.2.2.2.2.1 = true
    · rw [if_pos hb]
      by_cases hb1 : s.2.2.2.1 = true
      · have q : ¬ I 55 34 = 0 := by rw [g7, hb1]; decide
        refine wv_aload_n dX8_readLine_0 rfl ?_
        refine wv_ldc2_w nX8_336 dX8_readLine_1 ?_
        refine wv_v1e oX8_isWord kX8_203 dX8_readLine_4 (by omega) (by first | assumption | rfl) ⟨rfl, by decide⟩ (Nat.le_of_ble_eq_true rfl) (Nat.le_of_ble_eq_true rfl) (x_isWord T s.1 h1.1 h1.2.1 0 (by decide) _ (by decide +kernel)) ?_
        refine wv_if_eq (tgt := 31) dX8_readLine_7 (by decide) (fun h7 => absurd h7 (by rw [if_pos hw]; decide)) (fun h7 => ?_)
        refine wv_aload_n dX8_readLine_10 rfl ?_
        refine wv_getI fX8_319 dX8_readLine_11 rfl (by first | assumption | rfl) ?_
        refine wv_if_ne (tgt := 31) dX8_readLine_14 (by decide) (fun h14 => ?_) (fun h14 => absurd h14 q)
        refine wv_aload_n dX8_readLine_31 rfl ?_
        refine wv_ldc2_w nX8_329 dX8_readLine_32 ?_
        refine wv_v1e oX8_isWord kX8_203 dX8_readLine_35 (by omega) (by first | assumption | rfl) ⟨rfl, by decide⟩ (Nat.le_of_ble_eq_true rfl) (Nat.le_of_ble_eq_true rfl) (x_isWord T s.1 h1.1 h1.2.1 1 (by decide) _ (by decide +kernel)) ?_
        refine wv_if_ne (tgt := 61) dX8_readLine_38 (by decide) (fun h38 => absurd (by rw [if_neg (wd_n hG (i := 0) (by decide) (by decide) (by decide) hw)]) h38) (fun h38 => ?_)
        refine wv_aload_n dX8_readLine_41 rfl ?_
        refine wv_ldc2_w nX8_331 dX8_readLine_42 ?_
        refine wv_v1e oX8_isWord kX8_203 dX8_readLine_45 (by omega) (by first | assumption | rfl) ⟨rfl, by decide⟩ (Nat.le_of_ble_eq_true rfl) (Nat.le_of_ble_eq_true rfl) (x_isWord T s.1 h1.1 h1.2.1 2 (by decide) _ (by decide +kernel)) ?_
        refine wv_if_ne (tgt := 61) dX8_readLine_48 (by decide) (fun h48 => absurd (by rw [if_neg (wd_n hG (i := 0) (by decide) (by decide) (by decide) hw)]) h48) (fun h48 => ?_)
        refine wv_aload_n dX8_readLine_51 rfl ?_
        refine wv_ldc2_w nX8_341 dX8_readLine_52 ?_
        refine wv_v1e oX8_isWord kX8_203 dX8_readLine_55 (by omega) (by first | assumption | rfl) ⟨rfl, by decide⟩ (Nat.le_of_ble_eq_true rfl) (Nat.le_of_ble_eq_true rfl) (x_isWord T s.1 h1.1 h1.2.1 3 (by decide) _ (by decide +kernel)) ?_
        refine wv_if_eq (tgt := 68) dX8_readLine_58 (by decide) (fun h58 => ?_) (fun h58 => absurd (by rw [if_neg (wd_n hG (i := 0) (by decide) (by decide) (by decide) hw)]) h58)
        refine wv_aload_n dX8_readLine_68 rfl ?_
        refine wv_ldc2_w nX8_245 dX8_readLine_69 ?_
        refine wv_v1e oX8_isWord kX8_203 dX8_readLine_72 (by omega) (by first | assumption | rfl) ⟨rfl, by decide⟩ (Nat.le_of_ble_eq_true rfl) (Nat.le_of_ble_eq_true rfl) (x_isWord T s.1 h1.1 h1.2.1 5 (by decide) _ (by decide +kernel)) ?_
        refine wv_if_eq (tgt := 94) dX8_readLine_75 (by decide) (fun h75 => ?_) (fun h75 => absurd (by rw [if_neg (wd_n hG (i := 0) (by decide) (by decide) (by decide) hw)]) h75)
        refine wv_aload_n dX8_readLine_94 rfl ?_
        refine wv_ldc2_w nX8_349 dX8_readLine_95 ?_
        refine wv_v1e oX8_isWord kX8_203 dX8_readLine_98 (by omega) (by first | assumption | rfl) ⟨rfl, by decide⟩ (Nat.le_of_ble_eq_true rfl) (Nat.le_of_ble_eq_true rfl) (x_isWord T s.1 h1.1 h1.2.1 7 (by decide) _ (by decide +kernel)) ?_
        refine wv_if_eq (tgt := 118) dX8_readLine_101 (by decide) (fun h101 => ?_) (fun h101 => absurd (by rw [if_neg (wd_n hG (i := 0) (by decide) (by decide) (by decide) hw)]) h101)
        exact wv_le (by simp [wr_leq, wr_s1, wr_s2, wr_wide]) g118
      · have hb2 : s.2.2.2.2.1 = true := hb.resolve_left hb1
        have q : I 55 34 = 0 := by rw [g7, Bool.eq_false_iff.mpr hb1]; rfl
        have q2 : ¬ I 55 35 = 0 := by rw [g8, hb2]; decide
        refine wv_aload_n dX8_readLine_0 rfl ?_
        refine wv_ldc2_w nX8_336 dX8_readLine_1 ?_
        refine wv_v1e oX8_isWord kX8_203 dX8_readLine_4 (by omega) (by first | assumption | rfl) ⟨rfl, by decide⟩ (Nat.le_of_ble_eq_true rfl) (Nat.le_of_ble_eq_true rfl) (x_isWord T s.1 h1.1 h1.2.1 0 (by decide) _ (by decide +kernel)) ?_
        refine wv_if_eq (tgt := 31) dX8_readLine_7 (by decide) (fun h7 => absurd h7 (by rw [if_pos hw]; decide)) (fun h7 => ?_)
        refine wv_aload_n dX8_readLine_10 rfl ?_
        refine wv_getI fX8_319 dX8_readLine_11 rfl (by first | assumption | rfl) ?_
        refine wv_if_ne (tgt := 31) dX8_readLine_14 (by decide) (fun h14 => absurd q h14) (fun h14 => ?_)
        refine wv_aload_n dX8_readLine_17 rfl ?_
        refine wv_getI fX8_333 dX8_readLine_18 rfl (by first | assumption | rfl) ?_
        refine wv_if_ne (tgt := 31) dX8_readLine_21 (by decide) (fun h21 => ?_) (fun h21 => absurd h21 q2)
        refine wv_aload_n dX8_readLine_31 rfl ?_
        refine wv_ldc2_w nX8_329 dX8_readLine_32 ?_
        refine wv_v1e oX8_isWord kX8_203 dX8_readLine_35 (by omega) (by first | assumption | rfl) ⟨rfl, by decide⟩ (Nat.le_of_ble_eq_true rfl) (Nat.le_of_ble_eq_true rfl) (x_isWord T s.1 h1.1 h1.2.1 1 (by decide) _ (by decide +kernel)) ?_
        refine wv_if_ne (tgt := 61) dX8_readLine_38 (by decide) (fun h38 => absurd (by rw [if_neg (wd_n hG (i := 0) (by decide) (by decide) (by decide) hw)]) h38) (fun h38 => ?_)
        refine wv_aload_n dX8_readLine_41 rfl ?_
        refine wv_ldc2_w nX8_331 dX8_readLine_42 ?_
        refine wv_v1e oX8_isWord kX8_203 dX8_readLine_45 (by omega) (by first | assumption | rfl) ⟨rfl, by decide⟩ (Nat.le_of_ble_eq_true rfl) (Nat.le_of_ble_eq_true rfl) (x_isWord T s.1 h1.1 h1.2.1 2 (by decide) _ (by decide +kernel)) ?_
        refine wv_if_ne (tgt := 61) dX8_readLine_48 (by decide) (fun h48 => absurd (by rw [if_neg (wd_n hG (i := 0) (by decide) (by decide) (by decide) hw)]) h48) (fun h48 => ?_)
        refine wv_aload_n dX8_readLine_51 rfl ?_
        refine wv_ldc2_w nX8_341 dX8_readLine_52 ?_
        refine wv_v1e oX8_isWord kX8_203 dX8_readLine_55 (by omega) (by first | assumption | rfl) ⟨rfl, by decide⟩ (Nat.le_of_ble_eq_true rfl) (Nat.le_of_ble_eq_true rfl) (x_isWord T s.1 h1.1 h1.2.1 3 (by decide) _ (by decide +kernel)) ?_
        refine wv_if_eq (tgt := 68) dX8_readLine_58 (by decide) (fun h58 => ?_) (fun h58 => absurd (by rw [if_neg (wd_n hG (i := 0) (by decide) (by decide) (by decide) hw)]) h58)
        refine wv_aload_n dX8_readLine_68 rfl ?_
        refine wv_ldc2_w nX8_245 dX8_readLine_69 ?_
        refine wv_v1e oX8_isWord kX8_203 dX8_readLine_72 (by omega) (by first | assumption | rfl) ⟨rfl, by decide⟩ (Nat.le_of_ble_eq_true rfl) (Nat.le_of_ble_eq_true rfl) (x_isWord T s.1 h1.1 h1.2.1 5 (by decide) _ (by decide +kernel)) ?_
        refine wv_if_eq (tgt := 94) dX8_readLine_75 (by decide) (fun h75 => ?_) (fun h75 => absurd (by rw [if_neg (wd_n hG (i := 0) (by decide) (by decide) (by decide) hw)]) h75)
        refine wv_aload_n dX8_readLine_94 rfl ?_
        refine wv_ldc2_w nX8_349 dX8_readLine_95 ?_
        refine wv_v1e oX8_isWord kX8_203 dX8_readLine_98 (by omega) (by first | assumption | rfl) ⟨rfl, by decide⟩ (Nat.le_of_ble_eq_true rfl) (Nat.le_of_ble_eq_true rfl) (x_isWord T s.1 h1.1 h1.2.1 7 (by decide) _ (by decide +kernel)) ?_
        refine wv_if_eq (tgt := 118) dX8_readLine_101 (by decide) (fun h101 => ?_) (fun h101 => absurd (by rw [if_neg (wd_n hG (i := 0) (by decide) (by decide) (by decide) hw)]) h101)
        exact wv_le (by simp [wr_leq, wr_s1, wr_s2, wr_wide]) g118
    · rw [if_neg hb]
      have q : I 55 34 = 0 := by rw [g7, Bool.eq_false_iff.mpr (fun z => hb (Or.inl z))]; rfl
      have q2 : I 55 35 = 0 := by rw [g8, Bool.eq_false_iff.mpr (fun z => hb (Or.inr z))]; rfl
      refine wv_aload_n dX8_readLine_0 rfl ?_
      refine wv_ldc2_w nX8_336 dX8_readLine_1 ?_
      refine wv_v1e oX8_isWord kX8_203 dX8_readLine_4 (by omega) (by first | assumption | rfl) ⟨rfl, by decide⟩ (Nat.le_of_ble_eq_true rfl) (Nat.le_of_ble_eq_true rfl) (x_isWord T s.1 h1.1 h1.2.1 0 (by decide) _ (by decide +kernel)) ?_
      refine wv_if_eq (tgt := 31) dX8_readLine_7 (by decide) (fun h7 => absurd h7 (by rw [if_pos hw]; decide)) (fun h7 => ?_)
      refine wv_aload_n dX8_readLine_10 rfl ?_
      refine wv_getI fX8_319 dX8_readLine_11 rfl (by first | assumption | rfl) ?_
      refine wv_if_ne (tgt := 31) dX8_readLine_14 (by decide) (fun h14 => absurd q h14) (fun h14 => ?_)
      refine wv_aload_n dX8_readLine_17 rfl ?_
      refine wv_getI fX8_333 dX8_readLine_18 rfl (by first | assumption | rfl) ?_
      refine wv_if_ne (tgt := 31) dX8_readLine_21 (by decide) (fun h21 => absurd q2 h21) (fun h21 => ?_)
      refine wv_aload_n dX8_readLine_24 rfl ?_
      refine wv_v0 oX8_readSeats kX8_338 dX8_readLine_25 (by omega) (by first | assumption | rfl) ⟨rfl, by decide⟩ (Nat.le_of_ble_eq_true rfl) (Nat.le_of_ble_eq_true rfl) (x_seats hR T s hV h4) (fun v9 s9 J9 L9 R9 h9 => ?_)
      obtain ⟨rfl, rfl, rfl, hfb, hrb⟩ := h9
      refine wv_goto (tgt := 123) dX8_readLine_28 (by decide) ?_
      exact wv_le (by simp [wr_leq, wr_s1, wr_s2, wr_wide]) (x_tail hR I L T _ _ _ hfb hrb)
  rw [if_neg hw]
  have w0 := hw
  clear hw
  by_cases hw : isWd T s.1 1 = true
  · rw [if_pos hw, lPlaces_b]
    refine wv_aload_n dX8_readLine_0 rfl ?_
    refine wv_ldc2_w nX8_336 dX8_readLine_1 ?_
    refine wv_v1e oX8_isWord kX8_203 dX8_readLine_4 (by omega) (by first | assumption | rfl) ⟨rfl, by decide⟩ (Nat.le_of_ble_eq_true rfl) (Nat.le_of_ble_eq_true rfl) (x_isWord T s.1 h1.1 h1.2.1 0 (by decide) _ (by decide +kernel)) ?_
    refine wv_if_eq (tgt := 31) dX8_readLine_7 (by decide) (fun h7 => ?_) (fun h7 => absurd (by rw [if_neg (wd_n hG (i := 1) (by decide) (by decide) (by decide) hw)]) h7)
    refine wv_aload_n dX8_readLine_31 rfl ?_
    refine wv_ldc2_w nX8_329 dX8_readLine_32 ?_
    refine wv_v1e oX8_isWord kX8_203 dX8_readLine_35 (by omega) (by first | assumption | rfl) ⟨rfl, by decide⟩ (Nat.le_of_ble_eq_true rfl) (Nat.le_of_ble_eq_true rfl) (x_isWord T s.1 h1.1 h1.2.1 1 (by decide) _ (by decide +kernel)) ?_
    refine wv_if_ne (tgt := 61) dX8_readLine_38 (by decide) (fun h38 => ?_) (fun h38 => absurd h38 (by rw [if_pos hw]; decide))
    refine wv_aload_n dX8_readLine_61 rfl ?_
    refine wv_v0 oX8_readRow kX8_343 dX8_readLine_62 (by omega) (by first | assumption | rfl) ⟨rfl, by decide⟩ (Nat.le_of_ble_eq_true rfl) (Nat.le_of_ble_eq_true rfl) (x_row0 hR T s hV hw) (fun v9 s9 J9 L9 R9 h9 => ?_)
    obtain ⟨rfl, rfl, rfl, hfb, hrb⟩ := h9
    refine wv_goto (tgt := 123) dX8_readLine_65 (by decide) ?_
    exact wv_le (by simp [wr_leq, wr_s1, wr_s2, wr_wide]) (x_tail hR I L T _ _ _ hfb hrb)
  rw [if_neg hw]
  have w1 := hw
  clear hw
  by_cases hw : isWd T s.1 2 = true
  · rw [if_pos hw, lPlaces_b]
    refine wv_aload_n dX8_readLine_0 rfl ?_
    refine wv_ldc2_w nX8_336 dX8_readLine_1 ?_
    refine wv_v1e oX8_isWord kX8_203 dX8_readLine_4 (by omega) (by first | assumption | rfl) ⟨rfl, by decide⟩ (Nat.le_of_ble_eq_true rfl) (Nat.le_of_ble_eq_true rfl) (x_isWord T s.1 h1.1 h1.2.1 0 (by decide) _ (by decide +kernel)) ?_
    refine wv_if_eq (tgt := 31) dX8_readLine_7 (by decide) (fun h7 => ?_) (fun h7 => absurd (by rw [if_neg (wd_n hG (i := 2) (by decide) (by decide) (by decide) hw)]) h7)
    refine wv_aload_n dX8_readLine_31 rfl ?_
    refine wv_ldc2_w nX8_329 dX8_readLine_32 ?_
    refine wv_v1e oX8_isWord kX8_203 dX8_readLine_35 (by omega) (by first | assumption | rfl) ⟨rfl, by decide⟩ (Nat.le_of_ble_eq_true rfl) (Nat.le_of_ble_eq_true rfl) (x_isWord T s.1 h1.1 h1.2.1 1 (by decide) _ (by decide +kernel)) ?_
    refine wv_if_ne (tgt := 61) dX8_readLine_38 (by decide) (fun h38 => absurd (by rw [if_neg (wd_n hG (i := 2) (by decide) (by decide) (by decide) hw)]) h38) (fun h38 => ?_)
    refine wv_aload_n dX8_readLine_41 rfl ?_
    refine wv_ldc2_w nX8_331 dX8_readLine_42 ?_
    refine wv_v1e oX8_isWord kX8_203 dX8_readLine_45 (by omega) (by first | assumption | rfl) ⟨rfl, by decide⟩ (Nat.le_of_ble_eq_true rfl) (Nat.le_of_ble_eq_true rfl) (x_isWord T s.1 h1.1 h1.2.1 2 (by decide) _ (by decide +kernel)) ?_
    refine wv_if_ne (tgt := 61) dX8_readLine_48 (by decide) (fun h48 => ?_) (fun h48 => absurd h48 (by rw [if_pos hw]; decide))
    refine wv_aload_n dX8_readLine_61 rfl ?_
    refine wv_v0 oX8_readRow kX8_343 dX8_readLine_62 (by omega) (by first | assumption | rfl) ⟨rfl, by decide⟩ (Nat.le_of_ble_eq_true rfl) (Nat.le_of_ble_eq_true rfl) (x_row1 hR T s hV w1 hw) (fun v9 s9 J9 L9 R9 h9 => ?_)
    obtain ⟨rfl, rfl, rfl, hfb, hrb⟩ := h9
    refine wv_goto (tgt := 123) dX8_readLine_65 (by decide) ?_
    exact wv_le (by simp [wr_leq, wr_s1, wr_s2, wr_wide]) (x_tail hR I L T _ _ _ hfb hrb)
  rw [if_neg hw]
  have w2 := hw
  clear hw
  by_cases hw : isWd T s.1 3 = true
  · rw [if_pos hw, lPlaces_b]
    refine wv_aload_n dX8_readLine_0 rfl ?_
    refine wv_ldc2_w nX8_336 dX8_readLine_1 ?_
    refine wv_v1e oX8_isWord kX8_203 dX8_readLine_4 (by omega) (by first | assumption | rfl) ⟨rfl, by decide⟩ (Nat.le_of_ble_eq_true rfl) (Nat.le_of_ble_eq_true rfl) (x_isWord T s.1 h1.1 h1.2.1 0 (by decide) _ (by decide +kernel)) ?_
    refine wv_if_eq (tgt := 31) dX8_readLine_7 (by decide) (fun h7 => ?_) (fun h7 => absurd (by rw [if_neg (wd_n hG (i := 3) (by decide) (by decide) (by decide) hw)]) h7)
    refine wv_aload_n dX8_readLine_31 rfl ?_
    refine wv_ldc2_w nX8_329 dX8_readLine_32 ?_
    refine wv_v1e oX8_isWord kX8_203 dX8_readLine_35 (by omega) (by first | assumption | rfl) ⟨rfl, by decide⟩ (Nat.le_of_ble_eq_true rfl) (Nat.le_of_ble_eq_true rfl) (x_isWord T s.1 h1.1 h1.2.1 1 (by decide) _ (by decide +kernel)) ?_
    refine wv_if_ne (tgt := 61) dX8_readLine_38 (by decide) (fun h38 => absurd (by rw [if_neg (wd_n hG (i := 3) (by decide) (by decide) (by decide) hw)]) h38) (fun h38 => ?_)
    refine wv_aload_n dX8_readLine_41 rfl ?_
    refine wv_ldc2_w nX8_331 dX8_readLine_42 ?_
    refine wv_v1e oX8_isWord kX8_203 dX8_readLine_45 (by omega) (by first | assumption | rfl) ⟨rfl, by decide⟩ (Nat.le_of_ble_eq_true rfl) (Nat.le_of_ble_eq_true rfl) (x_isWord T s.1 h1.1 h1.2.1 2 (by decide) _ (by decide +kernel)) ?_
    refine wv_if_ne (tgt := 61) dX8_readLine_48 (by decide) (fun h48 => absurd (by rw [if_neg (wd_n hG (i := 3) (by decide) (by decide) (by decide) hw)]) h48) (fun h48 => ?_)
    refine wv_aload_n dX8_readLine_51 rfl ?_
    refine wv_ldc2_w nX8_341 dX8_readLine_52 ?_
    refine wv_v1e oX8_isWord kX8_203 dX8_readLine_55 (by omega) (by first | assumption | rfl) ⟨rfl, by decide⟩ (Nat.le_of_ble_eq_true rfl) (Nat.le_of_ble_eq_true rfl) (x_isWord T s.1 h1.1 h1.2.1 3 (by decide) _ (by decide +kernel)) ?_
    refine wv_if_eq (tgt := 68) dX8_readLine_58 (by decide) (fun h58 => absurd h58 (by rw [if_pos hw]; decide)) (fun h58 => ?_)
    refine wv_aload_n dX8_readLine_61 rfl ?_
    refine wv_v0 oX8_readRow kX8_343 dX8_readLine_62 (by omega) (by first | assumption | rfl) ⟨rfl, by decide⟩ (Nat.le_of_ble_eq_true rfl) (Nat.le_of_ble_eq_true rfl) (x_row2 hR T s hV w1 w2 hw) (fun v9 s9 J9 L9 R9 h9 => ?_)
    obtain ⟨rfl, rfl, rfl, hfb, hrb⟩ := h9
    refine wv_goto (tgt := 123) dX8_readLine_65 (by decide) ?_
    exact wv_le (by simp [wr_leq, wr_s1, wr_s2, wr_wide]) (x_tail hR I L T _ _ _ hfb hrb)
  rw [if_neg hw]
  have w3 := hw
  clear hw
  by_cases hw : isWd T s.1 5 = true
  · rw [if_pos hw, lSlack_b]
    have h4 : ¬ s.1.1 = 4 := by rw [(isW_1 hw).1]; omega
    have h6 := h3.2.2.2.2.1
    by_cases hb : 6 ≤ s.2.1.2.1.2.2.2
    · rw [if_pos hb]
      have q : 6 ≤ I 55 23 := by rw [g4]; exact nI_le (a := 6) hb (by omega)
      refine wv_aload_n dX8_readLine_0 rfl ?_
      refine wv_ldc2_w nX8_336 dX8_readLine_1 ?_
      refine wv_v1e oX8_isWord kX8_203 dX8_readLine_4 (by omega) (by first | assumption | rfl) ⟨rfl, by decide⟩ (Nat.le_of_ble_eq_true rfl) (Nat.le_of_ble_eq_true rfl) (x_isWord T s.1 h1.1 h1.2.1 0 (by decide) _ (by decide +kernel)) ?_
      refine wv_if_eq (tgt := 31) dX8_readLine_7 (by decide) (fun h7 => ?_) (fun h7 => absurd (by rw [if_neg (wd_n hG (i := 5) (by decide) (by decide) (by decide) hw)]) h7)
      refine wv_aload_n dX8_readLine_31 rfl ?_
      refine wv_ldc2_w nX8_329 dX8_readLine_32 ?_
      refine wv_v1e oX8_isWord kX8_203 dX8_readLine_35 (by omega) (by first | assumption | rfl) ⟨rfl, by decide⟩ (Nat.le_of_ble_eq_true rfl) (Nat.le_of_ble_eq_true rfl) (x_isWord T s.1 h1.1 h1.2.1 1 (by decide) _ (by decide +kernel)) ?_
      refine wv_if_ne (tgt := 61) dX8_readLine_38 (by decide) (fun h38 => absurd (by rw [if_neg (wd_n hG (i := 5) (by decide) (by decide) (by decide) hw)]) h38) (fun h38 => ?_)
      refine wv_aload_n dX8_readLine_41 rfl ?_
      refine wv_ldc2_w nX8_331 dX8_readLine_42 ?_
      refine wv_v1e oX8_isWord kX8_203 dX8_readLine_45 (by omega) (by first | assumption | rfl) ⟨rfl, by decide⟩ (Nat.le_of_ble_eq_true rfl) (Nat.le_of_ble_eq_true rfl) (x_isWord T s.1 h1.1 h1.2.1 2 (by decide) _ (by decide +kernel)) ?_
      refine wv_if_ne (tgt := 61) dX8_readLine_48 (by decide) (fun h48 => absurd (by rw [if_neg (wd_n hG (i := 5) (by decide) (by decide) (by decide) hw)]) h48) (fun h48 => ?_)
      refine wv_aload_n dX8_readLine_51 rfl ?_
      refine wv_ldc2_w nX8_341 dX8_readLine_52 ?_
      refine wv_v1e oX8_isWord kX8_203 dX8_readLine_55 (by omega) (by first | assumption | rfl) ⟨rfl, by decide⟩ (Nat.le_of_ble_eq_true rfl) (Nat.le_of_ble_eq_true rfl) (x_isWord T s.1 h1.1 h1.2.1 3 (by decide) _ (by decide +kernel)) ?_
      refine wv_if_eq (tgt := 68) dX8_readLine_58 (by decide) (fun h58 => ?_) (fun h58 => absurd (by rw [if_neg (wd_n hG (i := 5) (by decide) (by decide) (by decide) hw)]) h58)
      refine wv_aload_n dX8_readLine_68 rfl ?_
      refine wv_ldc2_w nX8_245 dX8_readLine_69 ?_
      refine wv_v1e oX8_isWord kX8_203 dX8_readLine_72 (by omega) (by first | assumption | rfl) ⟨rfl, by decide⟩ (Nat.le_of_ble_eq_true rfl) (Nat.le_of_ble_eq_true rfl) (x_isWord T s.1 h1.1 h1.2.1 5 (by decide) _ (by decide +kernel)) ?_
      refine wv_if_eq (tgt := 94) dX8_readLine_75 (by decide) (fun h75 => absurd h75 (by rw [if_pos hw]; decide)) (fun h75 => ?_)
      refine wv_aload_n dX8_readLine_78 rfl ?_
      refine wv_getI fX8_322 dX8_readLine_79 rfl (by first | assumption | rfl) ?_
      refine wv_bipush (v := 6) dX8_readLine_82 (by decide) ?_
      refine wv_icmp_ge (tgt := 94) dX8_readLine_84 (by decide) (fun h84 => ?_) (fun h84 => absurd q h84)
      refine wv_aload_n dX8_readLine_94 rfl ?_
      refine wv_ldc2_w nX8_349 dX8_readLine_95 ?_
      refine wv_v1e oX8_isWord kX8_203 dX8_readLine_98 (by omega) (by first | assumption | rfl) ⟨rfl, by decide⟩ (Nat.le_of_ble_eq_true rfl) (Nat.le_of_ble_eq_true rfl) (x_isWord T s.1 h1.1 h1.2.1 7 (by decide) _ (by decide +kernel)) ?_
      refine wv_if_eq (tgt := 118) dX8_readLine_101 (by decide) (fun h101 => ?_) (fun h101 => absurd (by rw [if_neg (wd_n hG (i := 5) (by decide) (by decide) (by decide) hw)]) h101)
      exact wv_le (by simp [wr_leq, wr_s1, wr_s2, wr_wide]) g118
    · rw [if_neg hb]
      have q : ¬ 6 ≤ I 55 23 := by rw [g4]; exact nI_ge (b := 6) (by omega) (by omega)
      refine wv_aload_n dX8_readLine_0 rfl ?_
      refine wv_ldc2_w nX8_336 dX8_readLine_1 ?_
      refine wv_v1e oX8_isWord kX8_203 dX8_readLine_4 (by omega) (by first | assumption | rfl) ⟨rfl, by decide⟩ (Nat.le_of_ble_eq_true rfl) (Nat.le_of_ble_eq_true rfl) (x_isWord T s.1 h1.1 h1.2.1 0 (by decide) _ (by decide +kernel)) ?_
      refine wv_if_eq (tgt := 31) dX8_readLine_7 (by decide) (fun h7 => ?_) (fun h7 => absurd (by rw [if_neg (wd_n hG (i := 5) (by decide) (by decide) (by decide) hw)]) h7)
      refine wv_aload_n dX8_readLine_31 rfl ?_
      refine wv_ldc2_w nX8_329 dX8_readLine_32 ?_
      refine wv_v1e oX8_isWord kX8_203 dX8_readLine_35 (by omega) (by first | assumption | rfl) ⟨rfl, by decide⟩ (Nat.le_of_ble_eq_true rfl) (Nat.le_of_ble_eq_true rfl) (x_isWord T s.1 h1.1 h1.2.1 1 (by decide) _ (by decide +kernel)) ?_
      refine wv_if_ne (tgt := 61) dX8_readLine_38 (by decide) (fun h38 => absurd (by rw [if_neg (wd_n hG (i := 5) (by decide) (by decide) (by decide) hw)]) h38) (fun h38 => ?_)
      refine wv_aload_n dX8_readLine_41 rfl ?_
      refine wv_ldc2_w nX8_331 dX8_readLine_42 ?_
      refine wv_v1e oX8_isWord kX8_203 dX8_readLine_45 (by omega) (by first | assumption | rfl) ⟨rfl, by decide⟩ (Nat.le_of_ble_eq_true rfl) (Nat.le_of_ble_eq_true rfl) (x_isWord T s.1 h1.1 h1.2.1 2 (by decide) _ (by decide +kernel)) ?_
      refine wv_if_ne (tgt := 61) dX8_readLine_48 (by decide) (fun h48 => absurd (by rw [if_neg (wd_n hG (i := 5) (by decide) (by decide) (by decide) hw)]) h48) (fun h48 => ?_)
      refine wv_aload_n dX8_readLine_51 rfl ?_
      refine wv_ldc2_w nX8_341 dX8_readLine_52 ?_
      refine wv_v1e oX8_isWord kX8_203 dX8_readLine_55 (by omega) (by first | assumption | rfl) ⟨rfl, by decide⟩ (Nat.le_of_ble_eq_true rfl) (Nat.le_of_ble_eq_true rfl) (x_isWord T s.1 h1.1 h1.2.1 3 (by decide) _ (by decide +kernel)) ?_
      refine wv_if_eq (tgt := 68) dX8_readLine_58 (by decide) (fun h58 => ?_) (fun h58 => absurd (by rw [if_neg (wd_n hG (i := 5) (by decide) (by decide) (by decide) hw)]) h58)
      refine wv_aload_n dX8_readLine_68 rfl ?_
      refine wv_ldc2_w nX8_245 dX8_readLine_69 ?_
      refine wv_v1e oX8_isWord kX8_203 dX8_readLine_72 (by omega) (by first | assumption | rfl) ⟨rfl, by decide⟩ (Nat.le_of_ble_eq_true rfl) (Nat.le_of_ble_eq_true rfl) (x_isWord T s.1 h1.1 h1.2.1 5 (by decide) _ (by decide +kernel)) ?_
      refine wv_if_eq (tgt := 94) dX8_readLine_75 (by decide) (fun h75 => absurd h75 (by rw [if_pos hw]; decide)) (fun h75 => ?_)
      refine wv_aload_n dX8_readLine_78 rfl ?_
      refine wv_getI fX8_322 dX8_readLine_79 rfl (by first | assumption | rfl) ?_
      refine wv_bipush (v := 6) dX8_readLine_82 (by decide) ?_
      refine wv_icmp_ge (tgt := 94) dX8_readLine_84 (by decide) (fun h84 => absurd h84 q) (fun h84 => ?_)
      refine wv_aload_n dX8_readLine_87 rfl ?_
      refine wv_v0 oX8_readSlack kX8_346 dX8_readLine_88 (by omega) (by first | assumption | rfl) ⟨rfl, by decide⟩ (Nat.le_of_ble_eq_true rfl) (Nat.le_of_ble_eq_true rfl) (x_slk hR T s hV h4 _ rfl (by omega)) (fun v9 s9 J9 L9 R9 h9 => ?_)
      obtain ⟨rfl, rfl, rfl, hfb, hrb⟩ := h9
      refine wv_goto (tgt := 123) dX8_readLine_91 (by decide) ?_
      exact wv_le (by simp [wr_leq, wr_s1, wr_s2, wr_wide]) (x_tail hR I L T _ _ _ hfb hrb)
  rw [if_neg hw]
  have w5 := hw
  clear hw
  by_cases hw : isWd T s.1 7 = true
  · rw [if_pos hw, lLaw_b]
    have h4 : ¬ s.1.1 = 4 := by rw [(isW_1 hw).1]; omega
    by_cases hb : s.2.2.2.2.2 = true
    · rw [if_pos hb]
      have q : ¬ I 55 36 = 0 := by rw [g9, hb]; decide
      refine wv_aload_n dX8_readLine_0 rfl ?_
      refine wv_ldc2_w nX8_336 dX8_readLine_1 ?_
      refine wv_v1e oX8_isWord kX8_203 dX8_readLine_4 (by omega) (by first | assumption | rfl) ⟨rfl, by decide⟩ (Nat.le_of_ble_eq_true rfl) (Nat.le_of_ble_eq_true rfl) (x_isWord T s.1 h1.1 h1.2.1 0 (by decide) _ (by decide +kernel)) ?_
      refine wv_if_eq (tgt := 31) dX8_readLine_7 (by decide) (fun h7 => ?_) (fun h7 => absurd (by rw [if_neg (wd_n hG (i := 7) (by decide) (by decide) (by decide) hw)]) h7)
      refine wv_aload_n dX8_readLine_31 rfl ?_
      refine wv_ldc2_w nX8_329 dX8_readLine_32 ?_
      refine wv_v1e oX8_isWord kX8_203 dX8_readLine_35 (by omega) (by first | assumption | rfl) ⟨rfl, by decide⟩ (Nat.le_of_ble_eq_true rfl) (Nat.le_of_ble_eq_true rfl) (x_isWord T s.1 h1.1 h1.2.1 1 (by decide) _ (by decide +kernel)) ?_
      refine wv_if_ne (tgt := 61) dX8_readLine_38 (by decide) (fun h38 => absurd (by rw [if_neg (wd_n hG (i := 7) (by decide) (by decide) (by decide) hw)]) h38) (fun h38 => ?_)
      refine wv_aload_n dX8_readLine_41 rfl ?_
      refine wv_ldc2_w nX8_331 dX8_readLine_42 ?_
      refine wv_v1e oX8_isWord kX8_203 dX8_readLine_45 (by omega) (by first | assumption | rfl) ⟨rfl, by decide⟩ (Nat.le_of_ble_eq_true rfl) (Nat.le_of_ble_eq_true rfl) (x_isWord T s.1 h1.1 h1.2.1 2 (by decide) _ (by decide +kernel)) ?_
      refine wv_if_ne (tgt := 61) dX8_readLine_48 (by decide) (fun h48 => absurd (by rw [if_neg (wd_n hG (i := 7) (by decide) (by decide) (by decide) hw)]) h48) (fun h48 => ?_)
      refine wv_aload_n dX8_readLine_51 rfl ?_
      refine wv_ldc2_w nX8_341 dX8_readLine_52 ?_
      refine wv_v1e oX8_isWord kX8_203 dX8_readLine_55 (by omega) (by first | assumption | rfl) ⟨rfl, by decide⟩ (Nat.le_of_ble_eq_true rfl) (Nat.le_of_ble_eq_true rfl) (x_isWord T s.1 h1.1 h1.2.1 3 (by decide) _ (by decide +kernel)) ?_
      refine wv_if_eq (tgt := 68) dX8_readLine_58 (by decide) (fun h58 => ?_) (fun h58 => absurd (by rw [if_neg (wd_n hG (i := 7) (by decide) (by decide) (by decide) hw)]) h58)
      refine wv_aload_n dX8_readLine_68 rfl ?_
      refine wv_ldc2_w nX8_245 dX8_readLine_69 ?_
      refine wv_v1e oX8_isWord kX8_203 dX8_readLine_72 (by omega) (by first | assumption | rfl) ⟨rfl, by decide⟩ (Nat.le_of_ble_eq_true rfl) (Nat.le_of_ble_eq_true rfl) (x_isWord T s.1 h1.1 h1.2.1 5 (by decide) _ (by decide +kernel)) ?_
      refine wv_if_eq (tgt := 94) dX8_readLine_75 (by decide) (fun h75 => ?_) (fun h75 => absurd (by rw [if_neg (wd_n hG (i := 7) (by decide) (by decide) (by decide) hw)]) h75)
      refine wv_aload_n dX8_readLine_94 rfl ?_
      refine wv_ldc2_w nX8_349 dX8_readLine_95 ?_
      refine wv_v1e oX8_isWord kX8_203 dX8_readLine_98 (by omega) (by first | assumption | rfl) ⟨rfl, by decide⟩ (Nat.le_of_ble_eq_true rfl) (Nat.le_of_ble_eq_true rfl) (x_isWord T s.1 h1.1 h1.2.1 7 (by decide) _ (by decide +kernel)) ?_
      refine wv_if_eq (tgt := 118) dX8_readLine_101 (by decide) (fun h101 => absurd h101 (by rw [if_pos hw]; decide)) (fun h101 => ?_)
      refine wv_aload_n dX8_readLine_104 rfl ?_
      refine wv_getI fX8_280 dX8_readLine_105 rfl (by first | assumption | rfl) ?_
      refine wv_if_ne (tgt := 118) dX8_readLine_108 (by decide) (fun h108 => ?_) (fun h108 => absurd h108 q)
      exact wv_le (by simp [wr_leq, wr_s1, wr_s2, wr_wide]) g118
    · rw [if_neg hb]
      have q : I 55 36 = 0 := by rw [g9, Bool.eq_false_iff.mpr hb]; rfl
      refine wv_aload_n dX8_readLine_0 rfl ?_
      refine wv_ldc2_w nX8_336 dX8_readLine_1 ?_
      refine wv_v1e oX8_isWord kX8_203 dX8_readLine_4 (by omega) (by first | assumption | rfl) ⟨rfl, by decide⟩ (Nat.le_of_ble_eq_true rfl) (Nat.le_of_ble_eq_true rfl) (x_isWord T s.1 h1.1 h1.2.1 0 (by decide) _ (by decide +kernel)) ?_
      refine wv_if_eq (tgt := 31) dX8_readLine_7 (by decide) (fun h7 => ?_) (fun h7 => absurd (by rw [if_neg (wd_n hG (i := 7) (by decide) (by decide) (by decide) hw)]) h7)
      refine wv_aload_n dX8_readLine_31 rfl ?_
      refine wv_ldc2_w nX8_329 dX8_readLine_32 ?_
      refine wv_v1e oX8_isWord kX8_203 dX8_readLine_35 (by omega) (by first | assumption | rfl) ⟨rfl, by decide⟩ (Nat.le_of_ble_eq_true rfl) (Nat.le_of_ble_eq_true rfl) (x_isWord T s.1 h1.1 h1.2.1 1 (by decide) _ (by decide +kernel)) ?_
      refine wv_if_ne (tgt := 61) dX8_readLine_38 (by decide) (fun h38 => absurd (by rw [if_neg (wd_n hG (i := 7) (by decide) (by decide) (by decide) hw)]) h38) (fun h38 => ?_)
      refine wv_aload_n dX8_readLine_41 rfl ?_
      refine wv_ldc2_w nX8_331 dX8_readLine_42 ?_
      refine wv_v1e oX8_isWord kX8_203 dX8_readLine_45 (by omega) (by first | assumption | rfl) ⟨rfl, by decide⟩ (Nat.le_of_ble_eq_true rfl) (Nat.le_of_ble_eq_true rfl) (x_isWord T s.1 h1.1 h1.2.1 2 (by decide) _ (by decide +kernel)) ?_
      refine wv_if_ne (tgt := 61) dX8_readLine_48 (by decide) (fun h48 => absurd (by rw [if_neg (wd_n hG (i := 7) (by decide) (by decide) (by decide) hw)]) h48) (fun h48 => ?_)
      refine wv_aload_n dX8_readLine_51 rfl ?_
      refine wv_ldc2_w nX8_341 dX8_readLine_52 ?_
      refine wv_v1e oX8_isWord kX8_203 dX8_readLine_55 (by omega) (by first | assumption | rfl) ⟨rfl, by decide⟩ (Nat.le_of_ble_eq_true rfl) (Nat.le_of_ble_eq_true rfl) (x_isWord T s.1 h1.1 h1.2.1 3 (by decide) _ (by decide +kernel)) ?_
      refine wv_if_eq (tgt := 68) dX8_readLine_58 (by decide) (fun h58 => ?_) (fun h58 => absurd (by rw [if_neg (wd_n hG (i := 7) (by decide) (by decide) (by decide) hw)]) h58)
      refine wv_aload_n dX8_readLine_68 rfl ?_
      refine wv_ldc2_w nX8_245 dX8_readLine_69 ?_
      refine wv_v1e oX8_isWord kX8_203 dX8_readLine_72 (by omega) (by first | assumption | rfl) ⟨rfl, by decide⟩ (Nat.le_of_ble_eq_true rfl) (Nat.le_of_ble_eq_true rfl) (x_isWord T s.1 h1.1 h1.2.1 5 (by decide) _ (by decide +kernel)) ?_
      refine wv_if_eq (tgt := 94) dX8_readLine_75 (by decide) (fun h75 => ?_) (fun h75 => absurd (by rw [if_neg (wd_n hG (i := 7) (by decide) (by decide) (by decide) hw)]) h75)
      refine wv_aload_n dX8_readLine_94 rfl ?_
      refine wv_ldc2_w nX8_349 dX8_readLine_95 ?_
      refine wv_v1e oX8_isWord kX8_203 dX8_readLine_98 (by omega) (by first | assumption | rfl) ⟨rfl, by decide⟩ (Nat.le_of_ble_eq_true rfl) (Nat.le_of_ble_eq_true rfl) (x_isWord T s.1 h1.1 h1.2.1 7 (by decide) _ (by decide +kernel)) ?_
      refine wv_if_eq (tgt := 118) dX8_readLine_101 (by decide) (fun h101 => absurd h101 (by rw [if_pos hw]; decide)) (fun h101 => ?_)
      refine wv_aload_n dX8_readLine_104 rfl ?_
      refine wv_getI fX8_280 dX8_readLine_105 rfl (by first | assumption | rfl) ?_
      refine wv_if_ne (tgt := 118) dX8_readLine_108 (by decide) (fun h108 => absurd q h108) (fun h108 => ?_)
      refine wv_aload_n dX8_readLine_111 rfl ?_
      refine wv_v0 oX8_readLaw kX8_351 dX8_readLine_112 (by omega) (by first | assumption | rfl) ⟨rfl, by decide⟩ (Nat.le_of_ble_eq_true rfl) (Nat.le_of_ble_eq_true rfl) (x_law hR T s hV h4 (Bool.eq_false_iff.mpr hb)) (fun v9 s9 J9 L9 R9 h9 => ?_)
      obtain ⟨rfl, rfl, rfl, hfb, hrb⟩ := h9
      refine wv_goto (tgt := 123) dX8_readLine_115 (by decide) ?_
      exact wv_le (by simp [wr_leq, wr_s1, wr_s2, wr_wide]) (x_tail hR I L T _ _ _ hfb hrb)
  rw [if_neg hw]
  have w7 := hw
  refine wv_aload_n dX8_readLine_0 rfl ?_
  refine wv_ldc2_w nX8_336 dX8_readLine_1 ?_
  refine wv_v1e oX8_isWord kX8_203 dX8_readLine_4 (by omega) (by first | assumption | rfl) ⟨rfl, by decide⟩ (Nat.le_of_ble_eq_true rfl) (Nat.le_of_ble_eq_true rfl) (x_isWord T s.1 h1.1 h1.2.1 0 (by decide) _ (by decide +kernel)) ?_
  refine wv_if_eq (tgt := 31) dX8_readLine_7 (by decide) (fun h7 => ?_) (fun h7 => absurd (by rw [if_neg w0]) h7)
  refine wv_aload_n dX8_readLine_31 rfl ?_
  refine wv_ldc2_w nX8_329 dX8_readLine_32 ?_
  refine wv_v1e oX8_isWord kX8_203 dX8_readLine_35 (by omega) (by first | assumption | rfl) ⟨rfl, by decide⟩ (Nat.le_of_ble_eq_true rfl) (Nat.le_of_ble_eq_true rfl) (x_isWord T s.1 h1.1 h1.2.1 1 (by decide) _ (by decide +kernel)) ?_
  refine wv_if_ne (tgt := 61) dX8_readLine_38 (by decide) (fun h38 => absurd (by rw [if_neg w1]) h38) (fun h38 => ?_)
  refine wv_aload_n dX8_readLine_41 rfl ?_
  refine wv_ldc2_w nX8_331 dX8_readLine_42 ?_
  refine wv_v1e oX8_isWord kX8_203 dX8_readLine_45 (by omega) (by first | assumption | rfl) ⟨rfl, by decide⟩ (Nat.le_of_ble_eq_true rfl) (Nat.le_of_ble_eq_true rfl) (x_isWord T s.1 h1.1 h1.2.1 2 (by decide) _ (by decide +kernel)) ?_
  refine wv_if_ne (tgt := 61) dX8_readLine_48 (by decide) (fun h48 => absurd (by rw [if_neg w2]) h48) (fun h48 => ?_)
  refine wv_aload_n dX8_readLine_51 rfl ?_
  refine wv_ldc2_w nX8_341 dX8_readLine_52 ?_
  refine wv_v1e oX8_isWord kX8_203 dX8_readLine_55 (by omega) (by first | assumption | rfl) ⟨rfl, by decide⟩ (Nat.le_of_ble_eq_true rfl) (Nat.le_of_ble_eq_true rfl) (x_isWord T s.1 h1.1 h1.2.1 3 (by decide) _ (by decide +kernel)) ?_
  refine wv_if_eq (tgt := 68) dX8_readLine_58 (by decide) (fun h58 => ?_) (fun h58 => absurd (by rw [if_neg w3]) h58)
  refine wv_aload_n dX8_readLine_68 rfl ?_
  refine wv_ldc2_w nX8_245 dX8_readLine_69 ?_
  refine wv_v1e oX8_isWord kX8_203 dX8_readLine_72 (by omega) (by first | assumption | rfl) ⟨rfl, by decide⟩ (Nat.le_of_ble_eq_true rfl) (Nat.le_of_ble_eq_true rfl) (x_isWord T s.1 h1.1 h1.2.1 5 (by decide) _ (by decide +kernel)) ?_
  refine wv_if_eq (tgt := 94) dX8_readLine_75 (by decide) (fun h75 => ?_) (fun h75 => absurd (by rw [if_neg w5]) h75)
  refine wv_aload_n dX8_readLine_94 rfl ?_
  refine wv_ldc2_w nX8_349 dX8_readLine_95 ?_
  refine wv_v1e oX8_isWord kX8_203 dX8_readLine_98 (by omega) (by first | assumption | rfl) ⟨rfl, by decide⟩ (Nat.le_of_ble_eq_true rfl) (Nat.le_of_ble_eq_true rfl) (x_isWord T s.1 h1.1 h1.2.1 7 (by decide) _ (by decide +kernel)) ?_
  refine wv_if_eq (tgt := 118) dX8_readLine_101 (by decide) (fun h101 => ?_) (fun h101 => absurd (by rw [if_neg w7]) h101)
  exact wv_le (by simp [wr_leq, wr_s1, wr_s2, wr_wide]) g118

