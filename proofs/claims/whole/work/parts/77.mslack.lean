/-! the model: a slack's line, a row's line: the walks -/
theorem wr_uI_nk {I : wr_TI} {j k a b : Nat} {x : Int32} (h : b ≠ k) : wr_uI I j k x a b = I a b := by simp [wr_uI, h]
theorem frW_wr {G J : wr_TI} {L K : wr_TL} {j k : Nat} {x : Int32} (h : frW G L J K) : frW (wr_uI G j k x) L (wr_uI J j k x) K := by
  refine ⟨fun b hb => ?_, fun b q1 q2 q3 q4 q5 q6 => ?_, h.2.2.1, h.2.2.2⟩
  · funext q; simp only [wr_uI, h.1 b hb]
  · simp only [wr_uI, h.2.1 b q1 q2 q3 q4 q5 q6]
theorem frW_55 {G J : wr_TI} {L K : wr_TL} {k : Nat} (h : frW G L J K) (hk : 10 ≤ k) : J 55 k = G 55 k := h.2.1 k (by omega) (by omega) (by omega) (by omega) (by omega) (by omega)
theorem mxg_W {I J : wr_TI} {L K : wr_TL} {s : XS} (h : mxg I s) (hf : frW I L J K) : mxg J s := mxg_fr h hf.1 hf.2.1
theorem mrd_a {I : wr_TI} {L : wr_TL} {T : TP} {k : TK} {a n : Nat} {x : Int32} (h : mrd I L T k) (h5 : a ≠ 55) (h6 : a ≠ 56) : mrd (wr_uI I a n x) L T k := mrd_fr h (fun j _ => by rw [wr_uI_ne (fun z => h5 z.symm)]) (wr_uI_ne (fun z => h6 z.symm))
theorem mrd_u {I : wr_TI} {L : wr_TL} {T : TP} {k : TK} {n : Nat} {x : Int32} (h : mrd I L T k) (h5 : 10 ≤ n) : mrd (wr_uI I 55 n x) L T k := mrd_fr h (fun j hj => wr_uI_nk (by omega)) (wr_uI_ne (by omega))
theorem tld_q {T : TP} {i : Nat} {a b : Int32} {k : TK} {p : Int32 × TK} (hT : T.1 ≤ 800) (hk : k.2.2.1 ≤ 800) (h : tld T i a b k = .inl p) : tkQ p.2 ∧ (∃ q, q < 10000 ∧ p.1 = nI q) ∧ a ≤ p.1 ∧ p.1 ≤ b := by
  unfold tld at h
  by_cases h1 : isWd T k i = true
  · rw [if_pos h1] at h
    by_cases h2 : tkN (tkS T k.2.2.1) a b = true
    · rw [if_pos h2] at h
      cases h
      obtain ⟨c1, c2, c3⟩ := tkN_i h2
      exact ⟨tkS_q hT (tkS_o hT hk).2.2, tkS_q hT hk c1, c2, c3⟩
    · rw [if_neg h2] at h; cases h
  · rw [if_neg h1] at h; cases h
/-- the memory behind a slack's line, tokens apart -/
def slG (I : wr_TI) (n : Nat) (x y z : Int32) : wr_TI := wr_uI (wr_uI (wr_uI (wr_uI I 63 n x) 64 n y) 65 n z) 55 23 (nI (n + 1))
theorem mxg_sl {I : wr_TI} {s : XS} {n : Nat} {x y z : Int32} (h : mxg I s) (hn : s.2.1.2.1.2.2.2 = n) (h6 : n < 6) (k : TK) : mxg (slG I n x y z) (k, sSl x y z s.2.1, s.2.2) := by
  obtain ⟨g1, g2, g3, g4, g5, g6, g7, g8, g9, g10, g11⟩ := h
  subst hn
  have hb : ∀ b, b ≠ 55 → b ≠ 63 → b ≠ 64 → b ≠ 65 → slG I s.2.1.2.1.2.2.2 x y z b = I b := fun b b1 b2 b3 b4 => by unfold slG; rw [wr_uI_ne b1, wr_uI_ne b4, wr_uI_ne b3, wr_uI_ne b2]
  have hk : ∀ k, k ≠ 23 → slG I s.2.1.2.1.2.2.2 x y z 55 k = I 55 k := fun k hk => by unfold slG; rw [wr_uI_nk hk, wr_uI_ne (by omega), wr_uI_ne (by omega), wr_uI_ne (by omega)]
  have h63 : slG I s.2.1.2.1.2.2.2 x y z 63 = upd (I 63) s.2.1.2.1.2.2.2 x := by unfold slG; rw [wr_uI_ne (by omega), wr_uI_ne (by omega), wr_uI_ne (by omega)]; funext q; simp [wr_uI, upd]
  have h64 : slG I s.2.1.2.1.2.2.2 x y z 64 = upd (I 64) s.2.1.2.1.2.2.2 y := by unfold slG; rw [wr_uI_ne (by omega), wr_uI_ne (by omega)]; funext q; simp [wr_uI, upd]
  have h65 : slG I s.2.1.2.1.2.2.2 x y z 65 = upd (I 65) s.2.1.2.1.2.2.2 z := by unfold slG; rw [wr_uI_ne (by omega)]; funext q; simp [wr_uI, upd]
  have h23 : slG I s.2.1.2.1.2.2.2 x y z 55 23 = nI (s.2.1.2.1.2.2.2 + 1) := by simp [slG, wr_uI]
  generalize slG I s.2.1.2.1.2.2.2 x y z = J at hb hk h63 h64 h65 h23 ⊢
  refine ⟨?_, g2, ?_, h23, ?_, ?_, ?_, ?_, ?_, ?_, ?_⟩
  · rw [hk 22 (by omega)]; exact g1
  · intro q hq
    rw [hb 57 (by omega) (by omega) (by omega) (by omega), hb 58 (by omega) (by omega) (by omega) (by omega), hb 59 (by omega) (by omega) (by omega) (by omega)]
    exact g3 q hq
  · show s.2.1.2.1.2.2.2 + 1 ≤ 6; omega
  · intro q hq
    have hq : q < s.2.1.2.1.2.2.2 + 1 := hq
    show J 63 q = upd s.2.1.2.1.1 s.2.1.2.1.2.2.2 x q ∧ J 64 q = upd s.2.1.2.1.2.1 s.2.1.2.1.2.2.2 y q ∧ J 65 q = upd s.2.1.2.1.2.2.1 s.2.1.2.1.2.2.2 z q
    rw [h63, h64, h65]
    unfold upd
    by_cases e : q = s.2.1.2.1.2.2.2
    · rw [if_pos e, if_pos e, if_pos e, if_pos e, if_pos e, if_pos e]; exact ⟨rfl, rfl, rfl⟩
    · rw [if_neg e, if_neg e, if_neg e, if_neg e, if_neg e, if_neg e]; exact g6 q (by omega)
  · rw [hk 34 (by omega)]; exact g7
  · rw [hk 35 (by omega)]; exact g8
  · rw [hk 36 (by omega)]; exact g9
  · intro q
    rw [hk 45 (by omega)]
    exact g10 q
  · intro q
    have q := g11 q
    unfold mxl at q ⊢
    rw [hk 24 (by omega), hk 25 (by omega), hk 26 (by omega), hk 27 (by omega), hk 43 (by omega), hk 45 (by omega), hb 69 (by omega) (by omega) (by omega) (by omega), hb 70 (by omega) (by omega) (by omega) (by omega)]
    exact q
theorem frX_sl {I : wr_TI} {L : wr_TL} {n : Nat} {x y z : Int32} : frX I L (slG I n x y z) L := frX_tr (frX_a (by decide) (by omega)) (frX_tr (frX_a (by decide) (by omega)) (frX_tr (frX_a (by decide) (by omega)) (frX_u (by decide))))
set_option maxHeartbeats 4000000 in
set_option maxRecDepth 100000 in
theorem x_slk {l : Launch} {I : wr_TI} {L : wr_TL} {R : wr_TR} (hR : wr_RC R) (T : TP) (s : XS) (h : mxV I L T s) (h4 : ¬ s.1.1 = 4) (n : Nat) (hn : s.2.1.2.1.2.2.2 = n) (h6 : n < 6) : wr_P l 4 mX8_readSlack [.ref 55] SH I L R (mQ I L R T (bSlack T s)) := by
  obtain ⟨h1, h2, h3⟩ := h
  have hT := h1.2.2.2.2.2.1
  have e23 : I 55 23 = nI n := by rw [h3.2.2.2.1, hn]
  have c23 : ∀ (G J : wr_TI) (K : wr_TL), frW G L J K → G 55 23 = nI n → J 55 23 = nI n := fun G J K hf hg => (frW_55 hf (by omega)).trans hg
  have hF := fun e => x_slackF (l := l) hR I L T n h6 e
  refine wv_pad 0 ?_
  show wr_V l 4 mX8_readSlack 0 [some (.ref 55)] [] SH I L R 0 0 _
  refine wv_aload_n dX8_readSlack_0 rfl ?_
  refine wv_v0 oX8_token kX8_210 dX8_readSlack_1 (by omega) (by first | assumption | rfl) ⟨rfl, by decide⟩ (Nat.le_of_ble_eq_true rfl) (Nat.le_of_ble_eq_true rfl) (x_tok hR h1 h4) (fun v9 s9 J9 L9 R9 h9 => ?_)
  obtain ⟨rfl, rfl, rfl, hm9, hf9⟩ := h9
  have e9 : bSlack T s = nbd T 0 999 (tkS T s.1.2.2.1) (fun x k => tbd (tld T 4 x 999 k) (fun y k2 => tbd (tld T 6 0 9 k2) (fun z k3 => .inl (k3, sSl x y z s.2.1, s.2.2)))) := rfl
  rw [e9]
  generalize tkS T s.1.2.2.1 = k1 at hm9 ⊢
  refine wv_aload_n dX8_readSlack_4 rfl ?_
  refine wv_getR fX8_36 dX8_readSlack_5 rfl (by first | assumption | rfl) (by first | exact hR _ _ _ rfl | assumption) ?_
  refine wv_aload_n dX8_readSlack_8 rfl ?_
  refine wv_getI fX8_322 dX8_readSlack_9 rfl (by first | assumption | rfl) ?_
  rw [c23 _ _ _ hf9 e23]
  refine wv_aload_n dX8_readSlack_12 rfl ?_
  refine wv_iconst (v := 0) dX8_readSlack_13 (by decide) ?_
  refine wv_sipush (v := 999) dX8_readSlack_14 (by decide) ?_
  refine wv_v2 oX8_toldNumber kX8_217 dX8_readSlack_17 (by omega) (by first | assumption | rfl) ⟨rfl, by decide⟩ (Nat.le_of_ble_eq_true rfl) (Nat.le_of_ble_eq_true rfl) (x_tnum hR hm9 0 999) (fun v8 s8 J8 L8 R8 h8 => ?_)
  obtain ⟨rfl, rfl, hf8, hy8, hn8⟩ := h8
  have hf98 := frW_tr hf9 hf8
  unfold nbd
  by_cases hc : tkN k1 0 999 = true
  · obtain ⟨rfl, hm8⟩ := hy8 hc
    rw [if_pos hc]
    dsimp only
    generalize tkS T k1.2.2.1 = k2 at hm8 ⊢
    generalize k1.2.2.2 = x
    have hw8 : frW (wr_uI I 63 n x) L (wr_uI J8 63 n x) L8 := frW_wr hf98
    have c8 : wr_uI J8 63 n x 55 23 = nI n := c23 _ _ _ hw8 (by rw [wr_uI_ne (by omega)]; exact e23)
    refine wv_iastN dX8_readSlack_20 (by first | assumption | rfl) (by omega) (by decide) ?_
    refine wv_aload_n dX8_readSlack_21 rfl ?_
    refine wv_getR fX8_39 dX8_readSlack_22 rfl (by first | assumption | rfl) (by first | exact hR _ _ _ rfl | assumption) ?_
    refine wv_aload_n dX8_readSlack_25 rfl ?_
    refine wv_getI fX8_322 dX8_readSlack_26 rfl (by first | assumption | rfl) ?_
    rw [c8]
    refine wv_aload_n dX8_readSlack_29 rfl ?_
    refine wv_ldc2_w nX8_325 dX8_readSlack_30 ?_
    refine wv_aload_n dX8_readSlack_33 rfl ?_
    refine wv_getR fX8_36 dX8_readSlack_34 rfl (by first | assumption | rfl) (by first | exact hR _ _ _ rfl | assumption) ?_
    refine wv_aload_n dX8_readSlack_37 rfl ?_
    refine wv_getI fX8_322 dX8_readSlack_38 rfl (by first | assumption | rfl) ?_
    rw [c8]
    refine wv_ialdN dX8_readSlack_41 (by first | assumption | rfl) (by omega) (by decide) ?_
    rw [show wr_uI J8 63 n x 63 n = x by simp [wr_uI]]
    refine wv_sipush (v := 999) dX8_readSlack_42 (by decide) ?_
    refine wv_v3 oX8_told kX8_286 dX8_readSlack_45 (by omega) (by first | assumption | rfl) ⟨rfl, by decide⟩ (Nat.le_of_ble_eq_true rfl) (Nat.le_of_ble_eq_true rfl) (x_told hR (mrd_a hm8 (by omega) (by omega)) 4 (by decide) _ (by decide +kernel) x 999) (fun v7 s7 J7 L7 R7 h7 => ?_)
    obtain ⟨rfl, rfl, hf7, h7⟩ := h7
    cases ht : tld T 4 x 999 k2 with
    | inr e =>
      rw [ht] at h7
      obtain ⟨⟨x7, rfl⟩, hm7⟩ := h7
      exact (hF e).2.1 _ _ _ hm7 (frX_tr (frX_a (by decide) (by omega)) (frX_W (frW_tr hw8 hf7))) (c23 _ _ _ (frW_tr hw8 hf7) (by rw [wr_uI_ne (by omega)]; exact e23))
    | inl p =>
      rw [ht] at h7
      obtain ⟨rfl, hm7⟩ := h7
      obtain ⟨y, k3⟩ := p
      have hw7 : frW (wr_uI (wr_uI I 63 n x) 64 n y) L (wr_uI J7 64 n y) L7 := frW_wr (frW_tr hw8 hf7)
      have c7 : wr_uI J7 64 n y 55 23 = nI n := c23 _ _ _ hw7 (by rw [wr_uI_ne (by omega), wr_uI_ne (by omega)]; exact e23)
      have hk3 := hm7.2.1.1.2.2
      dsimp only [tbd]
      refine wv_iastN dX8_readSlack_48 (by first | assumption | rfl) (by omega) (by decide) ?_
      refine wv_aload_n dX8_readSlack_49 rfl ?_
      refine wv_getR fX8_42 dX8_readSlack_50 rfl (by first | assumption | rfl) (by first | exact hR _ _ _ rfl | assumption) ?_
      refine wv_aload_n dX8_readSlack_53 rfl ?_
      refine wv_getI fX8_322 dX8_readSlack_54 rfl (by first | assumption | rfl) ?_
      rw [c7]
      refine wv_aload_n dX8_readSlack_57 rfl ?_
      refine wv_ldc2_w nX8_327 dX8_readSlack_58 ?_
      refine wv_iconst (v := 0) dX8_readSlack_61 (by decide) ?_
      refine wv_bipush (v := 9) dX8_readSlack_62 (by decide) ?_
      refine wv_v3 oX8_told kX8_286 dX8_readSlack_64 (by omega) (by first | assumption | rfl) ⟨rfl, by decide⟩ (Nat.le_of_ble_eq_true rfl) (Nat.le_of_ble_eq_true rfl) (x_told hR (mrd_a hm7 (by omega) (by omega)) 6 (by decide) _ (by decide +kernel) 0 9) (fun v6 s6 J6 L6 R6 h6' => ?_)
      obtain ⟨rfl, rfl, hf6, h6'⟩ := h6'
      cases ht6 : tld T 6 0 9 k3 with
      | inr e =>
        rw [ht6] at h6'
        obtain ⟨⟨x6, rfl⟩, hm6⟩ := h6'
        exact (hF e).1 _ _ _ hm6 (frX_tr (frX_a (by decide) (by omega)) (frX_tr (frX_a (by decide) (by omega)) (frX_W (frW_tr hw7 hf6)))) (c23 _ _ _ (frW_tr hw7 hf6) (by rw [wr_uI_ne (by omega), wr_uI_ne (by omega)]; exact e23))
      | inl p6 =>
        rw [ht6] at h6'
        obtain ⟨rfl, hm6⟩ := h6'
        obtain ⟨hq6, -, -, -⟩ := tld_q hT hk3 ht6
        obtain ⟨z, k4⟩ := p6
        have hw6 : frW (wr_uI (wr_uI (wr_uI I 63 n x) 64 n y) 65 n z) L (wr_uI J6 65 n z) L6 := frW_wr (frW_tr hw7 hf6)
        have c6 : wr_uI J6 65 n z 55 23 = nI n := c23 _ _ _ hw6 (by rw [wr_uI_ne (by omega), wr_uI_ne (by omega), wr_uI_ne (by omega)]; exact e23)
        refine wv_iastN dX8_readSlack_67 (by first | assumption | rfl) (by omega) (by decide) ?_
        refine wv_aload_n dX8_readSlack_68 rfl ?_
        refine wv_dup dX8_readSlack_69 rfl ?_
        refine wv_getI fX8_322 dX8_readSlack_70 rfl (by first | assumption | rfl) ?_
        rw [c6]
        refine wv_iconst (v := 1) dX8_readSlack_73 (by decide) ?_
        refine wv_iadd dX8_readSlack_74 ?_
        rw [nI_1]
        refine wv_putI fX8_322 dX8_readSlack_75 rfl rfl rfl rfl (by first | assumption | rfl) ?_
        refine wv_ret (x := ()) rfl dX8_readSlack_78 ?_
        have hwe : frW (slG I n x y z) L (wr_uI (wr_uI J6 65 n z) 55 23 (nI (n + 1))) L6 := frW_wr hw6
        exact ⟨rfl, rfl, rfl, frX_tr frX_sl (frX_W hwe), mrd_u (mrd_a hm6 (by omega) (by omega)) (by omega), hq6, mxg_W (mxg_sl h3 hn h6 k4) hwe⟩
  · obtain ⟨⟨x8, rfl⟩, hm8⟩ := hn8 hc
    rw [if_neg hc]
    exact (hF _).2.2 _ _ _ hm8 (frX_W hf98) (c23 _ _ _ hf98 e23)

set_option maxHeartbeats 4000000 in
set_option maxRecDepth 100000 in
theorem x_rowF {l : Launch} {R : wr_TR} (I : wr_TI) (L : wr_TL) (T : TP) (e : Int32 × Nat) (J : wr_TI) (K : wr_TL) (a b c d : Int32) (h : mfl J e) (hf : frX I L J K) : wr_V l 4 mX8_readRow 69 [some (.ref 55), some (.int a), some (.int b), some (.int c), some (.int d)] [] SH J K R 0 0 (mQ I L R T (.inr e)) := by
  have n0 : ¬ J 55 2 = 0 := fun z => by have := h.2.2; rw [← h.1, z] at this; exact absurd this (by decide)
  refine wv_iload dX8_readRow_69 rfl ?_
  refine wv_iload_n dX8_readRow_71 rfl ?_
  refine wv_icmp_gt (tgt := 126) dX8_readRow_72 (by decide) (fun h72 => ?_) (fun h72 => ?_)
  · refine wv_ret (x := ()) rfl dX8_readRow_126 ?_
    exact ⟨rfl, rfl, rfl, hf, h⟩
  · refine wv_aload_n dX8_readRow_75 rfl ?_
    refine wv_getI fX8_200 dX8_readRow_76 rfl (by first | assumption | rfl) ?_
    refine wv_if_ne (tgt := 126) dX8_readRow_79 (by decide) (fun h79 => ?_) (fun h79 => absurd h79 n0)
    refine wv_ret (x := ()) rfl dX8_readRow_126 ?_
    exact ⟨rfl, rfl, rfl, hf, h⟩

set_option maxHeartbeats 4000000 in
set_option maxRecDepth 100000 in
theorem x_rlp0 {l : Launch} {R : wr_TR} (hR : wr_RC R) (K : wr_TL) (a : Int32) (b : Nat) (hb : b < 40) : ∀ (k i : Nat) (J : wr_TI), i + k = b + 1 → J 55 2 = 0 → wr_V l 4 mX8_readRow 69 [some (.ref 55), some (.int 0), some (.int a), some (.int (nI b)), some (.int (nI i))] [] SH J K R 0 0 (fun v s' I' L' R' => v = none ∧ s' = SH ∧ R' = R ∧ L' = K ∧ (∀ q, I' 57 q = if i ≤ q ∧ q ≤ b then 1 else J 57 q) ∧ ∀ c, c ≠ 57 → I' c = J c) := by
  intro k
  induction k with
  | zero =>
    intro i J hi h0
    refine wv_iload dX8_readRow_69 rfl ?_
    refine wv_iload_n dX8_readRow_71 rfl ?_
    refine wv_icmp_gt (tgt := 126) dX8_readRow_72 (by decide) (fun h72 => ?_) (fun h72 => absurd (nI_lt (by omega) (by omega)) h72)
    refine wv_ret (x := ()) rfl dX8_readRow_126 ?_
    refine ⟨rfl, rfl, rfl, rfl, fun q => ?_, fun _ _ => rfl⟩
    rw [if_neg (by omega)]
  | succ k ih =>
    intro i J hi h0
    refine wv_iload dX8_readRow_69 rfl ?_
    refine wv_iload_n dX8_readRow_71 rfl ?_
    refine wv_icmp_gt (tgt := 126) dX8_readRow_72 (by decide) (fun h72 => absurd h72 (nI_nlt (by omega) (by omega))) (fun h72 => ?_)
    refine wv_aload_n dX8_readRow_75 rfl ?_
    refine wv_getI fX8_200 dX8_readRow_76 rfl (by first | assumption | rfl) ?_
    refine wv_if_ne (tgt := 126) dX8_readRow_79 (by decide) (fun h79 => absurd h0 h79) (fun h79 => ?_)
    refine wv_iload_n dX8_readRow_82 rfl ?_
    refine wv_if_ne (tgt := 94) dX8_readRow_83 (by decide) (fun h83 => absurd rfl h83) (fun h83 => ?_)
    refine wv_aload_n dX8_readRow_86 rfl ?_
    refine wv_getR fX8_17 dX8_readRow_87 rfl (by first | assumption | rfl) (by first | exact hR _ _ _ rfl | assumption) ?_
    refine wv_iload dX8_readRow_90 rfl ?_
    refine wv_iconst (v := 1) dX8_readRow_92 (by decide) ?_
    refine wv_zastN dX8_readRow_93 (by first | assumption | rfl) (by omega) (by decide) ?_
    refine wv_iload_n dX8_readRow_94 rfl ?_
    refine wv_iconst (v := 1) dX8_readRow_95 (by decide) ?_
    refine wv_icmp_ne (tgt := 107) dX8_readRow_96 (by decide) (fun h96 => ?_) (fun h96 => absurd h96 (by decide))
    refine wv_iload_n dX8_readRow_107 rfl ?_
    refine wv_iconst (v := 2) dX8_readRow_108 (by decide) ?_
    refine wv_icmp_ne (tgt := 120) dX8_readRow_109 (by decide) (fun h109 => ?_) (fun h109 => absurd h109 (by decide))
    refine wv_iinc (v := nI (i + 1)) dX8_readRow_120 rfl (nI_1 (i)) (by decide) ?_
    refine wv_goto (tgt := 69) dX8_readRow_123 (by decide) ?_
    refine wv_le (by simp [wr_leq, wr_s1, wr_s2, wr_wide]) (wr_V.imp (ih (i + 1) _ (by omega) (by rw [wr_uI_ne (by omega)]; exact h0)) (fun v s' I' L' R' hq => ?_))
    obtain ⟨r1, r2, r3, r4, r5, r6⟩ := hq
    refine ⟨r1, r2, r3, r4, fun q => ?_, fun c hc => by rw [r6 c hc, wr_uI_ne hc]⟩
    rw [r5 q]
    have ev : vp_nar .boolean 1 = 1 := rfl
    by_cases e : q = i
    · subst e; rw [if_neg (by omega), if_pos (by omega)]; simp [wr_uI, ev]
    · rw [wr_uI_nk e]
      by_cases e2 : i + 1 ≤ q ∧ q ≤ b
      · rw [if_pos e2, if_pos (by omega)]
      · rw [if_neg e2, if_neg (by omega)]

set_option maxHeartbeats 4000000 in
set_option maxRecDepth 100000 in
theorem x_rlp1 {l : Launch} {R : wr_TR} (hR : wr_RC R) (K : wr_TL) (a : Int32) (b : Nat) (hb : b < 40) : ∀ (k i : Nat) (J : wr_TI), i + k = b + 1 → J 55 2 = 0 → wr_V l 4 mX8_readRow 69 [some (.ref 55), some (.int 1), some (.int a), some (.int (nI b)), some (.int (nI i))] [] SH J K R 0 0 (fun v s' I' L' R' => v = none ∧ s' = SH ∧ R' = R ∧ L' = K ∧ (∀ q, I' 58 q = if i ≤ q ∧ q ≤ b then 1 else J 58 q) ∧ ∀ c, c ≠ 58 → I' c = J c) := by
  intro k
  induction k with
  | zero =>
    intro i J hi h0
    refine wv_iload dX8_readRow_69 rfl ?_
    refine wv_iload_n dX8_readRow_71 rfl ?_
    refine wv_icmp_gt (tgt := 126) dX8_readRow_72 (by decide) (fun h72 => ?_) (fun h72 => absurd (nI_lt (by omega) (by omega)) h72)
    refine wv_ret (x := ()) rfl dX8_readRow_126 ?_
    refine ⟨rfl, rfl, rfl, rfl, fun q => ?_, fun _ _ => rfl⟩
    rw [if_neg (by omega)]
  | succ k ih =>
    intro i J hi h0
    refine wv_iload dX8_readRow_69 rfl ?_
    refine wv_iload_n dX8_readRow_71 rfl ?_
    refine wv_icmp_gt (tgt := 126) dX8_readRow_72 (by decide) (fun h72 => absurd h72 (nI_nlt (by omega) (by omega))) (fun h72 => ?_)
    refine wv_aload_n dX8_readRow_75 rfl ?_
    refine wv_getI fX8_200 dX8_readRow_76 rfl (by first | assumption | rfl) ?_
    refine wv_if_ne (tgt := 126) dX8_readRow_79 (by decide) (fun h79 => absurd h0 h79) (fun h79 => ?_)
    refine wv_iload_n dX8_readRow_82 rfl ?_
    refine wv_if_ne (tgt := 94) dX8_readRow_83 (by decide) (fun h83 => ?_) (fun h83 => absurd h83 (by decide))
    refine wv_iload_n dX8_readRow_94 rfl ?_
    refine wv_iconst (v := 1) dX8_readRow_95 (by decide) ?_
    refine wv_icmp_ne (tgt := 107) dX8_readRow_96 (by decide) (fun h96 => absurd rfl h96) (fun h96 => ?_)
    refine wv_aload_n dX8_readRow_99 rfl ?_
    refine wv_getR fX8_21 dX8_readRow_100 rfl (by first | assumption | rfl) (by first | exact hR _ _ _ rfl | assumption) ?_
    refine wv_iload dX8_readRow_103 rfl ?_
    refine wv_iconst (v := 1) dX8_readRow_105 (by decide) ?_
    refine wv_zastN dX8_readRow_106 (by first | assumption | rfl) (by omega) (by decide) ?_
    refine wv_iload_n dX8_readRow_107 rfl ?_
    refine wv_iconst (v := 2) dX8_readRow_108 (by decide) ?_
    refine wv_icmp_ne (tgt := 120) dX8_readRow_109 (by decide) (fun h109 => ?_) (fun h109 => absurd h109 (by decide))
    refine wv_iinc (v := nI (i + 1)) dX8_readRow_120 rfl (nI_1 (i)) (by decide) ?_
    refine wv_goto (tgt := 69) dX8_readRow_123 (by decide) ?_
    refine wv_le (by simp [wr_leq, wr_s1, wr_s2, wr_wide]) (wr_V.imp (ih (i + 1) _ (by omega) (by rw [wr_uI_ne (by omega)]; exact h0)) (fun v s' I' L' R' hq => ?_))
    obtain ⟨r1, r2, r3, r4, r5, r6⟩ := hq
    refine ⟨r1, r2, r3, r4, fun q => ?_, fun c hc => by rw [r6 c hc, wr_uI_ne hc]⟩
    rw [r5 q]
    have ev : vp_nar .boolean 1 = 1 := rfl
    by_cases e : q = i
    · subst e; rw [if_neg (by omega), if_pos (by omega)]; simp [wr_uI, ev]
    · rw [wr_uI_nk e]
      by_cases e2 : i + 1 ≤ q ∧ q ≤ b
      · rw [if_pos e2, if_pos (by omega)]
      · rw [if_neg e2, if_neg (by omega)]

set_option maxHeartbeats 4000000 in
set_option maxRecDepth 100000 in
theorem x_rlp2 {l : Launch} {R : wr_TR} (hR : wr_RC R) (K : wr_TL) (a : Int32) (b : Nat) (hb : b < 40) : ∀ (k i : Nat) (J : wr_TI), i + k = b + 1 → J 55 2 = 0 → wr_V l 4 mX8_readRow 69 [some (.ref 55), some (.int 2), some (.int a), some (.int (nI b)), some (.int (nI i))] [] SH J K R 0 0 (fun v s' I' L' R' => v = none ∧ s' = SH ∧ R' = R ∧ L' = K ∧ (∀ q, I' 59 q = if i ≤ q ∧ q ≤ b then 1 else J 59 q) ∧ ∀ c, c ≠ 59 → I' c = J c) := by
  intro k
  induction k with
  | zero =>
    intro i J hi h0
    refine wv_iload dX8_readRow_69 rfl ?_
    refine wv_iload_n dX8_readRow_71 rfl ?_
    refine wv_icmp_gt (tgt := 126) dX8_readRow_72 (by decide) (fun h72 => ?_) (fun h72 => absurd (nI_lt (by omega) (by omega)) h72)
    refine wv_ret (x := ()) rfl dX8_readRow_126 ?_
    refine ⟨rfl, rfl, rfl, rfl, fun q => ?_, fun _ _ => rfl⟩
    rw [if_neg (by omega)]
  | succ k ih =>
    intro i J hi h0
    refine wv_iload dX8_readRow_69 rfl ?_
    refine wv_iload_n dX8_readRow_71 rfl ?_
    refine wv_icmp_gt (tgt := 126) dX8_readRow_72 (by decide) (fun h72 => absurd h72 (nI_nlt (by omega) (by omega))) (fun h72 => ?_)
    refine wv_aload_n dX8_readRow_75 rfl ?_
    refine wv_getI fX8_200 dX8_readRow_76 rfl (by first | assumption | rfl) ?_
    refine wv_if_ne (tgt := 126) dX8_readRow_79 (by decide) (fun h79 => absurd h0 h79) (fun h79 => ?_)
    refine wv_iload_n dX8_readRow_82 rfl ?_
    refine wv_if_ne (tgt := 94) dX8_readRow_83 (by decide) (fun h83 => ?_) (fun h83 => absurd h83 (by decide))
    refine wv_iload_n dX8_readRow_94 rfl ?_
    refine wv_iconst (v := 1) dX8_readRow_95 (by decide) ?_
    refine wv_icmp_ne (tgt := 107) dX8_readRow_96 (by decide) (fun h96 => ?_) (fun h96 => absurd h96 (by decide))
    refine wv_iload_n dX8_readRow_107 rfl ?_
    refine wv_iconst (v := 2) dX8_readRow_108 (by decide) ?_
    refine wv_icmp_ne (tgt := 120) dX8_readRow_109 (by decide) (fun h109 => absurd rfl h109) (fun h109 => ?_)
    refine wv_aload_n dX8_readRow_112 rfl ?_
    refine wv_getR fX8_24 dX8_readRow_113 rfl (by first | assumption | rfl) (by first | exact hR _ _ _ rfl | assumption) ?_
    refine wv_iload dX8_readRow_116 rfl ?_
    refine wv_iconst (v := 1) dX8_readRow_118 (by decide) ?_
    refine wv_zastN dX8_readRow_119 (by first | assumption | rfl) (by omega) (by decide) ?_
    refine wv_iinc (v := nI (i + 1)) dX8_readRow_120 rfl (nI_1 (i)) (by decide) ?_
    refine wv_goto (tgt := 69) dX8_readRow_123 (by decide) ?_
    refine wv_le (by simp [wr_leq, wr_s1, wr_s2, wr_wide]) (wr_V.imp (ih (i + 1) _ (by omega) (by rw [wr_uI_ne (by omega)]; exact h0)) (fun v s' I' L' R' hq => ?_))
    obtain ⟨r1, r2, r3, r4, r5, r6⟩ := hq
    refine ⟨r1, r2, r3, r4, fun q => ?_, fun c hc => by rw [r6 c hc, wr_uI_ne hc]⟩
    rw [r5 q]
    have ev : vp_nar .boolean 1 = 1 := rfl
    by_cases e : q = i
    · subst e; rw [if_neg (by omega), if_pos (by omega)]; simp [wr_uI, ev]
    · rw [wr_uI_nk e]
      by_cases e2 : i + 1 ≤ q ∧ q ≤ b
      · rw [if_pos e2, if_pos (by omega)]
      · rw [if_neg e2, if_neg (by omega)]

theorem bI_or {u v : Bool} : bI (u || v) = if v = true then 1 else bI u := by cases u <;> cases v <;> rfl
theorem mxg_r {I : wr_TI} {s : XS} (h : mxg I s) : mxg (wr_uI I 55 35 1) (s.1, s.2.1, s.2.2.1, s.2.2.2.1, true, s.2.2.2.2.2) := by
  obtain ⟨g1, g2, g3, g4, g5, g6, g7, g8, g9, g10, g11⟩ := h
  have hb : ∀ b, b ≠ 55 → wr_uI I 55 35 1 b = I b := fun b hb => wr_uI_ne hb
  have hk : ∀ k, k ≠ 35 → wr_uI I 55 35 1 55 k = I 55 k := fun k hk => wr_uI_nk hk
  have h35 : wr_uI I 55 35 1 55 35 = 1 := by simp [wr_uI]
  generalize wr_uI I 55 35 1 = J at hb hk h35 ⊢
  refine ⟨?_, g2, ?_, ?_, g5, ?_, ?_, h35, ?_, ?_, ?_⟩
  · rw [hk 22 (by omega)]; exact g1
  · intro q hq
    rw [hb 57 (by omega), hb 58 (by omega), hb 59 (by omega)]
    exact g3 q hq
  · rw [hk 23 (by omega)]; exact g4
  · intro q hq
    rw [hb 63 (by omega), hb 64 (by omega), hb 65 (by omega)]
    exact g6 q hq
  · rw [hk 34 (by omega)]; exact g7
  · rw [hk 36 (by omega)]; exact g9
  · intro q
    rw [hk 45 (by omega)]
    exact g10 q
  · intro q
    have q := g11 q
    unfold mxl at q ⊢
    rw [hk 24 (by omega), hk 25 (by omega), hk 26 (by omega), hk 27 (by omega), hk 43 (by omega), hk 45 (by omega), hb 69 (by omega), hb 70 (by omega)]
    exact q
theorem mxg_pl {I J : wr_TI} {s : XS} {w a b : Nat} (h : mxg I s) (hw : w < 3) (hb : ∀ c, c ≠ 57 + w → J c = I c) (hc : ∀ q, J (57 + w) q = if a ≤ q ∧ q ≤ b then 1 else I (57 + w) q) (k : TK) : mxg J (k, sPl w a b s.2.1, s.2.2) := by
  obtain ⟨g1, g2, g3, g4, g5, g6, g7, g8, g9, g10, g11⟩ := h
  refine ⟨?_, g2, ?_, ?_, g5, ?_, ?_, ?_, ?_, ?_, ?_⟩
  · rw [hb 55 (by omega)]; exact g1
  · intro q hq
    obtain ⟨q1, q2, q3⟩ := g3 q hq
    have hd : rg a b q = true ↔ a ≤ q ∧ q ≤ b := by simp [rg]
    rcases (show w = 0 ∨ w = 1 ∨ w = 2 by omega) with rfl | rfl | rfl
    · rw [hb 58 (by omega), hb 59 (by omega)]
      refine ⟨q1, ?_, q3⟩
      show J 57 q = bI (gD s.2.1 q || rg a b q)
      rw [bI_or, ← q2, hc q]
      simp only [hd]
    · rw [hb 57 (by omega), hb 59 (by omega)]
      refine ⟨?_, q2, q3⟩
      show J 58 q = bI (gG s.2.1 q || rg a b q)
      rw [bI_or, ← q1, hc q]
      simp only [hd]
    · rw [hb 57 (by omega), hb 58 (by omega)]
      refine ⟨q1, q2, ?_⟩
      show J 59 q = bI (gF s.2.1 q || rg a b q)
      rw [bI_or, ← q3, hc q]
      simp only [hd]
  · rw [hb 55 (by omega)]; exact g4
  · intro q hq
    rw [hb 63 (by omega), hb 64 (by omega), hb 65 (by omega)]
    exact g6 q hq
  · rw [hb 55 (by omega)]; exact g7
  · rw [hb 55 (by omega)]; exact g8
  · rw [hb 55 (by omega)]; exact g9
  · intro q
    rw [hb 55 (by omega)]
    exact g10 q
  · intro q
    have q := g11 q
    unfold mxl at q ⊢
    rw [hb 55 (by omega), hb 69 (by omega), hb 70 (by omega)]
    exact q
theorem frX_pl {I J : wr_TI} {L : wr_TL} {w : Nat} (hw : w < 3) (hb : ∀ c, c ≠ 57 + w → J c = I c) : frX I L J L := by
  refine ⟨fun b hx => hb b (fun z => ?_), fun k _ => by rw [hb 55 (by omega)], fun _ _ => rfl, fun _ _ => rfl⟩
  subst z
  rcases (show w = 0 ∨ w = 1 ∨ w = 2 by omega) with rfl | rfl | rfl <;> exact absurd hx (by decide)
set_option maxHeartbeats 4000000 in
set_option maxRecDepth 100000 in
theorem x_row0 {l : Launch} {I : wr_TI} {L : wr_TL} {R : wr_TR} (hR : wr_RC R) (T : TP) (s : XS) (h : mxV I L T s) (h0 : isWd T s.1 1 = true) : wr_P l 4 mX8_readRow [.ref 55] SH I L R (mQ I L R T (bRow T 0 s)) := by
  obtain ⟨h1, h2, h3⟩ := h
  have hT := h1.2.2.2.2.2.1
  have h4 : ¬ s.1.1 = 4 := by rw [(isW_1 h0).1]; omega
  obtain ⟨N, hN⟩ : ∃ N, gN s.2.1 = N + 1 := ⟨gN s.2.1 - 1, by have := h3.2.1; omega⟩
  have hN4 : N < 40 := by have := h3.2.1; omega
  have hg := mxg_r h3
  have c22 : ∀ (G J : wr_TI) (K : wr_TL), frW G L J K → G 55 22 = nI (N + 1) → J 55 22 = nI (N + 1) := fun G J K hf hg => (frW_55 hf (by omega)).trans hg
  have e22 : wr_uI I 55 35 1 55 22 = nI (N + 1) := by rw [wr_uI_nk (by omega), h3.1, hN]
  have eb : bRow T 0 s = nbd T 0 (nI N) (tkS T s.1.2.2.1) (fun x k => tbd (tld T 4 x (nI N) k) (fun y k2 => .inl (k2, sPl 0 (tN x) (tN y) s.2.1, s.2.2.1, s.2.2.2.1, true, s.2.2.2.2.2))) := by unfold bRow; rw [hN]; rfl
  rw [eb]
  have hfx : frX I L (wr_uI I 55 35 1) L := frX_u (by decide)
  refine wv_pad 4 ?_
  show wr_V l 4 mX8_readRow 0 [some (.ref 55), none, none, none, none] [] SH I L R 0 0 _
  refine wv_aload_n dX8_readRow_0 rfl ?_
  refine wv_ldc2_w nX8_329 dX8_readRow_1 ?_
  refine wv_v1e oX8_isWord kX8_203 dX8_readRow_4 (by omega) (by first | assumption | rfl) ⟨rfl, by decide⟩ (Nat.le_of_ble_eq_true rfl) (Nat.le_of_ble_eq_true rfl) (x_isWord T s.1 h1.1 h1.2.1 1 (by decide) _ (by decide +kernel)) ?_
  refine wv_if_eq (tgt := 14) dX8_readRow_7 (by decide) (fun h7 => absurd h7 (by rw [if_pos h0]; decide)) (fun h7 => ?_)
  refine wv_iconst (v := 0) dX8_readRow_10 (by decide) ?_
  refine wv_goto (tgt := 29) dX8_readRow_11 (by decide) ?_
  refine wv_istore_k (i := 1) dX8_readRow_29 rfl (by decide) ?_
  refine wv_aload_n dX8_readRow_30 rfl ?_
  refine wv_iconst (v := 1) dX8_readRow_31 (by decide) ?_
  refine wv_putI fX8_333 dX8_readRow_32 rfl rfl rfl rfl (by first | assumption | rfl) ?_
  refine wv_aload_n dX8_readRow_35 rfl ?_
  refine wv_v0 oX8_token kX8_210 dX8_readRow_36 (by omega) (by first | assumption | rfl) ⟨rfl, by decide⟩ (Nat.le_of_ble_eq_true rfl) (Nat.le_of_ble_eq_true rfl) (x_tok hR (mrd_u h1 (by omega)) h4) (fun v9 s9 J9 L9 R9 h9 => ?_)
  obtain ⟨rfl, rfl, rfl, hm9, hf9⟩ := h9
  have hq1 : tkQ (tkS T s.1.2.2.1) := tkS_q hT h1.2.1.1.2.2
  generalize tkS T s.1.2.2.1 = k1 at hm9 hq1 ⊢
  refine wv_aload_n dX8_readRow_39 rfl ?_
  refine wv_iconst (v := 0) dX8_readRow_40 (by decide) ?_
  refine wv_aload_n dX8_readRow_41 rfl ?_
  refine wv_getI fX8_316 dX8_readRow_42 rfl (by first | assumption | rfl) ?_
  rw [c22 _ _ _ hf9 e22]
  refine wv_iconst (v := 1) dX8_readRow_45 (by decide) ?_
  refine wv_isub dX8_readRow_46 ?_
  rw [nI_pred]
  refine wv_v2 oX8_toldNumber kX8_217 dX8_readRow_47 (by omega) (by first | assumption | rfl) ⟨rfl, by decide⟩ (Nat.le_of_ble_eq_true rfl) (Nat.le_of_ble_eq_true rfl) (x_tnum hR hm9 0 (nI N)) (fun v8 s8 J8 L8 R8 h8 => ?_)
  obtain ⟨rfl, rfl, hf8, hy8, hn8⟩ := h8
  have hf98 := frW_tr hf9 hf8
  have e8 := c22 _ _ _ hf98 e22
  unfold nbd
  by_cases hc : tkN k1 0 (nI N) = true
  · obtain ⟨rfl, hm8⟩ := hy8 hc
    rw [if_pos hc]
    dsimp only
    obtain ⟨a, ha1, ha2⟩ := hq1 (tkN_i hc).1
    have hc3 := (tkN_i hc).2.2
    generalize tkS T k1.2.2.1 = k2 at hm8 ⊢
    generalize k1.2.2.2 = x at hc3 ha2 ⊢
    subst ha2
    have haN : a ≤ N := (nI_leI (by omega) (by omega)).mp hc3
    have hk2 := hm8.2.1.1.2.2
    rw [tN_nI (show a < 2 ^ 31 by omega)]
    refine wv_istore_k (i := 2) dX8_readRow_50 rfl (by decide) ?_
    refine wv_aload_n dX8_readRow_51 rfl ?_
    refine wv_ldc2_w nX8_325 dX8_readRow_52 ?_
    refine wv_iload_n dX8_readRow_55 rfl ?_
    refine wv_aload_n dX8_readRow_56 rfl ?_
    refine wv_getI fX8_316 dX8_readRow_57 rfl (by first | assumption | rfl) ?_
    rw [e8]
    refine wv_iconst (v := 1) dX8_readRow_60 (by decide) ?_
    refine wv_isub dX8_readRow_61 ?_
    rw [nI_pred]
    refine wv_v3 oX8_told kX8_286 dX8_readRow_62 (by omega) (by first | assumption | rfl) ⟨rfl, by decide⟩ (Nat.le_of_ble_eq_true rfl) (Nat.le_of_ble_eq_true rfl) (x_told hR hm8 4 (by decide) _ (by decide +kernel) (nI a) (nI N)) (fun v7 s7 J7 L7 R7 h7 => ?_)
    obtain ⟨rfl, rfl, hf7, h7⟩ := h7
    cases ht : tld T 4 (nI a) (nI N) k2 with
    | inr e =>
      rw [ht] at h7
      obtain ⟨⟨x7, rfl⟩, hm7⟩ := h7
      refine wv_istore_k (i := 3) dX8_readRow_65 rfl (by decide) ?_
      refine wv_iload_n dX8_readRow_66 rfl ?_
      refine wv_istore dX8_readRow_67 (by decide) ?_
      exact wv_le (by simp [wr_leq, wr_s1, wr_s2, wr_wide]) (x_rowF I L T e J7 L7 0 (nI a) x7 (nI a) hm7 (frX_tr hfx (frX_W (frW_tr hf98 hf7))))
    | inl p =>
      rw [ht] at h7
      obtain ⟨rfl, hm7⟩ := h7
      obtain ⟨hq7, ⟨b, hb1, hb2⟩, hb3, hb4⟩ := tld_q hT hk2 ht
      obtain ⟨y, k3⟩ := p
      have hb2 : y = nI b := hb2
      subst hb2
      have hbN : b ≤ N := (nI_leI (by omega) (by omega)).mp hb4
      have hab : a ≤ b := (nI_leI (by omega) (by omega)).mp hb3
      have hw7 := frW_tr hf98 hf7
      refine wv_istore_k (i := 3) dX8_readRow_65 rfl (by decide) ?_
      refine wv_iload_n dX8_readRow_66 rfl ?_
      refine wv_istore dX8_readRow_67 (by decide) ?_
      refine wv_le (by simp [wr_leq, wr_s1, wr_s2, wr_wide]) (wr_V.imp (x_rlp0 hR L7 (nI a) b (by omega) (b + 1 - a) a J7 (by omega) hm7.2.2.1) (fun v s' I' L' R' hq => ?_))
      obtain ⟨rfl, rfl, rfl, rfl, r5, r6⟩ := hq
      show mQ I L _ T (.inl (k3, sPl 0 a (tN (nI b)) s.2.1, s.2.2.1, s.2.2.2.1, true, s.2.2.2.2.2)) none SH I' L' _
      rw [tN_nI (show b < 2 ^ 31 by omega)]
      have hx : frX J7 L' I' L' := frX_pl (w := 0) (by omega) r6
      refine ⟨rfl, rfl, rfl, frX_tr hfx (frX_tr (frX_W hw7) hx), mrd_fr hm7 (fun j _ => by rw [r6 55 (by omega)]) (r6 56 (by omega)), hq7, ?_⟩
      exact mxg_pl (s := (s.1, s.2.1, s.2.2.1, s.2.2.2.1, true, s.2.2.2.2.2)) (mxg_W hg hw7) (by omega) r6 r5 k3
  · obtain ⟨⟨x8, rfl⟩, hm8⟩ := hn8 hc
    rw [if_neg hc]
    refine wv_istore_k (i := 2) dX8_readRow_50 rfl (by decide) ?_
    refine wv_aload_n dX8_readRow_51 rfl ?_
    refine wv_ldc2_w nX8_325 dX8_readRow_52 ?_
    refine wv_iload_n dX8_readRow_55 rfl ?_
    refine wv_aload_n dX8_readRow_56 rfl ?_
    refine wv_getI fX8_316 dX8_readRow_57 rfl (by first | assumption | rfl) ?_
    refine wv_iconst (v := 1) dX8_readRow_60 (by decide) ?_
    refine wv_isub dX8_readRow_61 ?_
    refine wv_v3e oX8_told kX8_286 dX8_readRow_62 (by omega) (by first | assumption | rfl) ⟨rfl, by decide⟩ (Nat.le_of_ble_eq_true rfl) (Nat.le_of_ble_eq_true rfl) (x_told9 (by rw [hm8.1]; exact hm8.2.2) _ _ _) ?_
    refine wv_istore_k (i := 3) dX8_readRow_65 rfl (by decide) ?_
    refine wv_iload_n dX8_readRow_66 rfl ?_
    refine wv_istore dX8_readRow_67 (by decide) ?_
    exact wv_le (by simp [wr_leq, wr_s1, wr_s2, wr_wide]) (x_rowF I L T _ J8 L8 0 x8 0 x8 hm8 (frX_tr hfx (frX_W hf98)))

set_option maxHeartbeats 4000000 in
set_option maxRecDepth 100000 in
theorem x_row1 {l : Launch} {I : wr_TI} {L : wr_TL} {R : wr_TR} (hR : wr_RC R) (T : TP) (s : XS) (h : mxV I L T s) (n0 : ¬ isWd T s.1 1 = true) (h0 : isWd T s.1 2 = true) : wr_P l 4 mX8_readRow [.ref 55] SH I L R (mQ I L R T (bRow T 1 s)) := by
  obtain ⟨h1, h2, h3⟩ := h
  have hT := h1.2.2.2.2.2.1
  have h4 : ¬ s.1.1 = 4 := by rw [(isW_1 h0).1]; omega
  obtain ⟨N, hN⟩ : ∃ N, gN s.2.1 = N + 1 := ⟨gN s.2.1 - 1, by have := h3.2.1; omega⟩
  have hN4 : N < 40 := by have := h3.2.1; omega
  have hg := mxg_r h3
  have c22 : ∀ (G J : wr_TI) (K : wr_TL), frW G L J K → G 55 22 = nI (N + 1) → J 55 22 = nI (N + 1) := fun G J K hf hg => (frW_55 hf (by omega)).trans hg
  have e22 : wr_uI I 55 35 1 55 22 = nI (N + 1) := by rw [wr_uI_nk (by omega), h3.1, hN]
  have eb : bRow T 1 s = nbd T 0 (nI N) (tkS T s.1.2.2.1) (fun x k => tbd (tld T 4 x (nI N) k) (fun y k2 => .inl (k2, sPl 1 (tN x) (tN y) s.2.1, s.2.2.1, s.2.2.2.1, true, s.2.2.2.2.2))) := by unfold bRow; rw [hN]; rfl
  rw [eb]
  have hfx : frX I L (wr_uI I 55 35 1) L := frX_u (by decide)
  refine wv_pad 4 ?_
  show wr_V l 4 mX8_readRow 0 [some (.ref 55), none, none, none, none] [] SH I L R 0 0 _
  refine wv_aload_n dX8_readRow_0 rfl ?_
  refine wv_ldc2_w nX8_329 dX8_readRow_1 ?_
  refine wv_v1e oX8_isWord kX8_203 dX8_readRow_4 (by omega) (by first | assumption | rfl) ⟨rfl, by decide⟩ (Nat.le_of_ble_eq_true rfl) (Nat.le_of_ble_eq_true rfl) (x_isWord T s.1 h1.1 h1.2.1 1 (by decide) _ (by decide +kernel)) ?_
  refine wv_if_eq (tgt := 14) dX8_readRow_7 (by decide) (fun h7 => ?_) (fun h7 => absurd (by rw [if_neg n0]) h7)
  refine wv_aload_n dX8_readRow_14 rfl ?_
  refine wv_ldc2_w nX8_331 dX8_readRow_15 ?_
  refine wv_v1e oX8_isWord kX8_203 dX8_readRow_18 (by omega) (by first | assumption | rfl) ⟨rfl, by decide⟩ (Nat.le_of_ble_eq_true rfl) (Nat.le_of_ble_eq_true rfl) (x_isWord T s.1 h1.1 h1.2.1 2 (by decide) _ (by decide +kernel)) ?_
  refine wv_if_eq (tgt := 28) dX8_readRow_21 (by decide) (fun h21 => absurd h21 (by rw [if_pos h0]; decide)) (fun h21 => ?_)
  refine wv_iconst (v := 1) dX8_readRow_24 (by decide) ?_
  refine wv_goto (tgt := 29) dX8_readRow_25 (by decide) ?_
  refine wv_istore_k (i := 1) dX8_readRow_29 rfl (by decide) ?_
  refine wv_aload_n dX8_readRow_30 rfl ?_
  refine wv_iconst (v := 1) dX8_readRow_31 (by decide) ?_
  refine wv_putI fX8_333 dX8_readRow_32 rfl rfl rfl rfl (by first | assumption | rfl) ?_
  refine wv_aload_n dX8_readRow_35 rfl ?_
  refine wv_v0 oX8_token kX8_210 dX8_readRow_36 (by omega) (by first | assumption | rfl) ⟨rfl, by decide⟩ (Nat.le_of_ble_eq_true rfl) (Nat.le_of_ble_eq_true rfl) (x_tok hR (mrd_u h1 (by omega)) h4) (fun v9 s9 J9 L9 R9 h9 => ?_)
  obtain ⟨rfl, rfl, rfl, hm9, hf9⟩ := h9
  have hq1 : tkQ (tkS T s.1.2.2.1) := tkS_q hT h1.2.1.1.2.2
  generalize tkS T s.1.2.2.1 = k1 at hm9 hq1 ⊢
  refine wv_aload_n dX8_readRow_39 rfl ?_
  refine wv_iconst (v := 0) dX8_readRow_40 (by decide) ?_
  refine wv_aload_n dX8_readRow_41 rfl ?_
  refine wv_getI fX8_316 dX8_readRow_42 rfl (by first | assumption | rfl) ?_
  rw [c22 _ _ _ hf9 e22]
  refine wv_iconst (v := 1) dX8_readRow_45 (by decide) ?_
  refine wv_isub dX8_readRow_46 ?_
  rw [nI_pred]
  refine wv_v2 oX8_toldNumber kX8_217 dX8_readRow_47 (by omega) (by first | assumption | rfl) ⟨rfl, by decide⟩ (Nat.le_of_ble_eq_true rfl) (Nat.le_of_ble_eq_true rfl) (x_tnum hR hm9 0 (nI N)) (fun v8 s8 J8 L8 R8 h8 => ?_)
  obtain ⟨rfl, rfl, hf8, hy8, hn8⟩ := h8
  have hf98 := frW_tr hf9 hf8
  have e8 := c22 _ _ _ hf98 e22
  unfold nbd
  by_cases hc : tkN k1 0 (nI N) = true
  · obtain ⟨rfl, hm8⟩ := hy8 hc
    rw [if_pos hc]
    dsimp only
    obtain ⟨a, ha1, ha2⟩ := hq1 (tkN_i hc).1
    have hc3 := (tkN_i hc).2.2
    generalize tkS T k1.2.2.1 = k2 at hm8 ⊢
    generalize k1.2.2.2 = x at hc3 ha2 ⊢
    subst ha2
    have haN : a ≤ N := (nI_leI (by omega) (by omega)).mp hc3
    have hk2 := hm8.2.1.1.2.2
    rw [tN_nI (show a < 2 ^ 31 by omega)]
    refine wv_istore_k (i := 2) dX8_readRow_50 rfl (by decide) ?_
    refine wv_aload_n dX8_readRow_51 rfl ?_
    refine wv_ldc2_w nX8_325 dX8_readRow_52 ?_
    refine wv_iload_n dX8_readRow_55 rfl ?_
    refine wv_aload_n dX8_readRow_56 rfl ?_
    refine wv_getI fX8_316 dX8_readRow_57 rfl (by first | assumption | rfl) ?_
    rw [e8]
    refine wv_iconst (v := 1) dX8_readRow_60 (by decide) ?_
    refine wv_isub dX8_readRow_61 ?_
    rw [nI_pred]
    refine wv_v3 oX8_told kX8_286 dX8_readRow_62 (by omega) (by first | assumption | rfl) ⟨rfl, by decide⟩ (Nat.le_of_ble_eq_true rfl) (Nat.le_of_ble_eq_true rfl) (x_told hR hm8 4 (by decide) _ (by decide +kernel) (nI a) (nI N)) (fun v7 s7 J7 L7 R7 h7 => ?_)
    obtain ⟨rfl, rfl, hf7, h7⟩ := h7
    cases ht : tld T 4 (nI a) (nI N) k2 with
    | inr e =>
      rw [ht] at h7
      obtain ⟨⟨x7, rfl⟩, hm7⟩ := h7
      refine wv_istore_k (i := 3) dX8_readRow_65 rfl (by decide) ?_
      refine wv_iload_n dX8_readRow_66 rfl ?_
      refine wv_istore dX8_readRow_67 (by decide) ?_
      exact wv_le (by simp [wr_leq, wr_s1, wr_s2, wr_wide]) (x_rowF I L T e J7 L7 1 (nI a) x7 (nI a) hm7 (frX_tr hfx (frX_W (frW_tr hf98 hf7))))
    | inl p =>
      rw [ht] at h7
      obtain ⟨rfl, hm7⟩ := h7
      obtain ⟨hq7, ⟨b, hb1, hb2⟩, hb3, hb4⟩ := tld_q hT hk2 ht
      obtain ⟨y, k3⟩ := p
      have hb2 : y = nI b := hb2
      subst hb2
      have hbN : b ≤ N := (nI_leI (by omega) (by omega)).mp hb4
      have hab : a ≤ b := (nI_leI (by omega) (by omega)).mp hb3
      have hw7 := frW_tr hf98 hf7
      refine wv_istore_k (i := 3) dX8_readRow_65 rfl (by decide) ?_
      refine wv_iload_n dX8_readRow_66 rfl ?_
      refine wv_istore dX8_readRow_67 (by decide) ?_
      refine wv_le (by simp [wr_leq, wr_s1, wr_s2, wr_wide]) (wr_V.imp (x_rlp1 hR L7 (nI a) b (by omega) (b + 1 - a) a J7 (by omega) hm7.2.2.1) (fun v s' I' L' R' hq => ?_))
      obtain ⟨rfl, rfl, rfl, rfl, r5, r6⟩ := hq
      show mQ I L _ T (.inl (k3, sPl 1 a (tN (nI b)) s.2.1, s.2.2.1, s.2.2.2.1, true, s.2.2.2.2.2)) none SH I' L' _
      rw [tN_nI (show b < 2 ^ 31 by omega)]
      have hx : frX J7 L' I' L' := frX_pl (w := 1) (by omega) r6
      refine ⟨rfl, rfl, rfl, frX_tr hfx (frX_tr (frX_W hw7) hx), mrd_fr hm7 (fun j _ => by rw [r6 55 (by omega)]) (r6 56 (by omega)), hq7, ?_⟩
      exact mxg_pl (s := (s.1, s.2.1, s.2.2.1, s.2.2.2.1, true, s.2.2.2.2.2)) (mxg_W hg hw7) (by omega) r6 r5 k3
  · obtain ⟨⟨x8, rfl⟩, hm8⟩ := hn8 hc
    rw [if_neg hc]
    refine wv_istore_k (i := 2) dX8_readRow_50 rfl (by decide) ?_
    refine wv_aload_n dX8_readRow_51 rfl ?_
    refine wv_ldc2_w nX8_325 dX8_readRow_52 ?_
    refine wv_iload_n dX8_readRow_55 rfl ?_
    refine wv_aload_n dX8_readRow_56 rfl ?_
    refine wv_getI fX8_316 dX8_readRow_57 rfl (by first | assumption | rfl) ?_
    refine wv_iconst (v := 1) dX8_readRow_60 (by decide) ?_
    refine wv_isub dX8_readRow_61 ?_
    refine wv_v3e oX8_told kX8_286 dX8_readRow_62 (by omega) (by first | assumption | rfl) ⟨rfl, by decide⟩ (Nat.le_of_ble_eq_true rfl) (Nat.le_of_ble_eq_true rfl) (x_told9 (by rw [hm8.1]; exact hm8.2.2) _ _ _) ?_
    refine wv_istore_k (i := 3) dX8_readRow_65 rfl (by decide) ?_
    refine wv_iload_n dX8_readRow_66 rfl ?_
    refine wv_istore dX8_readRow_67 (by decide) ?_
    exact wv_le (by simp [wr_leq, wr_s1, wr_s2, wr_wide]) (x_rowF I L T _ J8 L8 1 x8 0 x8 hm8 (frX_tr hfx (frX_W hf98)))

set_option maxHeartbeats 4000000 in
set_option maxRecDepth 100000 in
theorem x_row2 {l : Launch} {I : wr_TI} {L : wr_TL} {R : wr_TR} (hR : wr_RC R) (T : TP) (s : XS) (h : mxV I L T s) (n0 : ¬ isWd T s.1 1 = true) (n1 : ¬ isWd T s.1 2 = true) (h0 : isWd T s.1 3 = true) : wr_P l 4 mX8_readRow [.ref 55] SH I L R (mQ I L R T (bRow T 2 s)) := by
  obtain ⟨h1, h2, h3⟩ := h
  have hT := h1.2.2.2.2.2.1
  have h4 : ¬ s.1.1 = 4 := by rw [(isW_1 h0).1]; omega
  obtain ⟨N, hN⟩ : ∃ N, gN s.2.1 = N + 1 := ⟨gN s.2.1 - 1, by have := h3.2.1; omega⟩
  have hN4 : N < 40 := by have := h3.2.1; omega
  have hg := mxg_r h3
  have c22 : ∀ (G J : wr_TI) (K : wr_TL), frW G L J K → G 55 22 = nI (N + 1) → J 55 22 = nI (N + 1) := fun G J K hf hg => (frW_55 hf (by omega)).trans hg
  have e22 : wr_uI I 55 35 1 55 22 = nI (N + 1) := by rw [wr_uI_nk (by omega), h3.1, hN]
  have eb : bRow T 2 s = nbd T 0 (nI N) (tkS T s.1.2.2.1) (fun x k => tbd (tld T 4 x (nI N) k) (fun y k2 => .inl (k2, sPl 2 (tN x) (tN y) s.2.1, s.2.2.1, s.2.2.2.1, true, s.2.2.2.2.2))) := by unfold bRow; rw [hN]; rfl
  rw [eb]
  have hfx : frX I L (wr_uI I 55 35 1) L := frX_u (by decide)
  refine wv_pad 4 ?_
  show wr_V l 4 mX8_readRow 0 [some (.ref 55), none, none, none, none] [] SH I L R 0 0 _
  refine wv_aload_n dX8_readRow_0 rfl ?_
  refine wv_ldc2_w nX8_329 dX8_readRow_1 ?_
  refine wv_v1e oX8_isWord kX8_203 dX8_readRow_4 (by omega) (by first | assumption | rfl) ⟨rfl, by decide⟩ (Nat.le_of_ble_eq_true rfl) (Nat.le_of_ble_eq_true rfl) (x_isWord T s.1 h1.1 h1.2.1 1 (by decide) _ (by decide +kernel)) ?_
  refine wv_if_eq (tgt := 14) dX8_readRow_7 (by decide) (fun h7 => ?_) (fun h7 => absurd (by rw [if_neg n0]) h7)
  refine wv_aload_n dX8_readRow_14 rfl ?_
  refine wv_ldc2_w nX8_331 dX8_readRow_15 ?_
  refine wv_v1e oX8_isWord kX8_203 dX8_readRow_18 (by omega) (by first | assumption | rfl) ⟨rfl, by decide⟩ (Nat.le_of_ble_eq_true rfl) (Nat.le_of_ble_eq_true rfl) (x_isWord T s.1 h1.1 h1.2.1 2 (by decide) _ (by decide +kernel)) ?_
  refine wv_if_eq (tgt := 28) dX8_readRow_21 (by decide) (fun h21 => ?_) (fun h21 => absurd (by rw [if_neg n1]) h21)
  refine wv_iconst (v := 2) dX8_readRow_28 (by decide) ?_
  refine wv_istore_k (i := 1) dX8_readRow_29 rfl (by decide) ?_
  refine wv_aload_n dX8_readRow_30 rfl ?_
  refine wv_iconst (v := 1) dX8_readRow_31 (by decide) ?_
  refine wv_putI fX8_333 dX8_readRow_32 rfl rfl rfl rfl (by first | assumption | rfl) ?_
  refine wv_aload_n dX8_readRow_35 rfl ?_
  refine wv_v0 oX8_token kX8_210 dX8_readRow_36 (by omega) (by first | assumption | rfl) ⟨rfl, by decide⟩ (Nat.le_of_ble_eq_true rfl) (Nat.le_of_ble_eq_true rfl) (x_tok hR (mrd_u h1 (by omega)) h4) (fun v9 s9 J9 L9 R9 h9 => ?_)
  obtain ⟨rfl, rfl, rfl, hm9, hf9⟩ := h9
  have hq1 : tkQ (tkS T s.1.2.2.1) := tkS_q hT h1.2.1.1.2.2
  generalize tkS T s.1.2.2.1 = k1 at hm9 hq1 ⊢
  refine wv_aload_n dX8_readRow_39 rfl ?_
  refine wv_iconst (v := 0) dX8_readRow_40 (by decide) ?_
  refine wv_aload_n dX8_readRow_41 rfl ?_
  refine wv_getI fX8_316 dX8_readRow_42 rfl (by first | assumption | rfl) ?_
  rw [c22 _ _ _ hf9 e22]
  refine wv_iconst (v := 1) dX8_readRow_45 (by decide) ?_
  refine wv_isub dX8_readRow_46 ?_
  rw [nI_pred]
  refine wv_v2 oX8_toldNumber kX8_217 dX8_readRow_47 (by omega) (by first | assumption | rfl) ⟨rfl, by decide⟩ (Nat.le_of_ble_eq_true rfl) (Nat.le_of_ble_eq_true rfl) (x_tnum hR hm9 0 (nI N)) (fun v8 s8 J8 L8 R8 h8 => ?_)
  obtain ⟨rfl, rfl, hf8, hy8, hn8⟩ := h8
  have hf98 := frW_tr hf9 hf8
  have e8 := c22 _ _ _ hf98 e22
  unfold nbd
  by_cases hc : tkN k1 0 (nI N) = true
  · obtain ⟨rfl, hm8⟩ := hy8 hc
    rw [if_pos hc]
    dsimp only
    obtain ⟨a, ha1, ha2⟩ := hq1 (tkN_i hc).1
    have hc3 := (tkN_i hc).2.2
    generalize tkS T k1.2.2.1 = k2 at hm8 ⊢
    generalize k1.2.2.2 = x at hc3 ha2 ⊢
    subst ha2
    have haN : a ≤ N := (nI_leI (by omega) (by omega)).mp hc3
    have hk2 := hm8.2.1.1.2.2
    rw [tN_nI (show a < 2 ^ 31 by omega)]
    refine wv_istore_k (i := 2) dX8_readRow_50 rfl (by decide) ?_
    refine wv_aload_n dX8_readRow_51 rfl ?_
    refine wv_ldc2_w nX8_325 dX8_readRow_52 ?_
    refine wv_iload_n dX8_readRow_55 rfl ?_
    refine wv_aload_n dX8_readRow_56 rfl ?_
    refine wv_getI fX8_316 dX8_readRow_57 rfl (by first | assumption | rfl) ?_
    rw [e8]
    refine wv_iconst (v := 1) dX8_readRow_60 (by decide) ?_
    refine wv_isub dX8_readRow_61 ?_
    rw [nI_pred]
    refine wv_v3 oX8_told kX8_286 dX8_readRow_62 (by omega) (by first | assumption | rfl) ⟨rfl, by decide⟩ (Nat.le_of_ble_eq_true rfl) (Nat.le_of_ble_eq_true rfl) (x_told hR hm8 4 (by decide) _ (by decide +kernel) (nI a) (nI N)) (fun v7 s7 J7 L7 R7 h7 => ?_)
    obtain ⟨rfl, rfl, hf7, h7⟩ := h7
    cases ht : tld T 4 (nI a) (nI N) k2 with
    | inr e =>
      rw [ht] at h7
      obtain ⟨⟨x7, rfl⟩, hm7⟩ := h7
      refine wv_istore_k (i := 3) dX8_readRow_65 rfl (by decide) ?_
      refine wv_iload_n dX8_readRow_66 rfl ?_
      refine wv_istore dX8_readRow_67 (by decide) ?_
      exact wv_le (by simp [wr_leq, wr_s1, wr_s2, wr_wide]) (x_rowF I L T e J7 L7 2 (nI a) x7 (nI a) hm7 (frX_tr hfx (frX_W (frW_tr hf98 hf7))))
    | inl p =>
      rw [ht] at h7
      obtain ⟨rfl, hm7⟩ := h7
      obtain ⟨hq7, ⟨b, hb1, hb2⟩, hb3, hb4⟩ := tld_q hT hk2 ht
      obtain ⟨y, k3⟩ := p
      have hb2 : y = nI b := hb2
      subst hb2
      have hbN : b ≤ N := (nI_leI (by omega) (by omega)).mp hb4
      have hab : a ≤ b := (nI_leI (by omega) (by omega)).mp hb3
      have hw7 := frW_tr hf98 hf7
      refine wv_istore_k (i := 3) dX8_readRow_65 rfl (by decide) ?_
      refine wv_iload_n dX8_readRow_66 rfl ?_
      refine wv_istore dX8_readRow_67 (by decide) ?_
      refine wv_le (by simp [wr_leq, wr_s1, wr_s2, wr_wide]) (wr_V.imp (x_rlp2 hR L7 (nI a) b (by omega) (b + 1 - a) a J7 (by omega) hm7.2.2.1) (fun v s' I' L' R' hq => ?_))
      obtain ⟨rfl, rfl, rfl, rfl, r5, r6⟩ := hq
      show mQ I L _ T (.inl (k3, sPl 2 a (tN (nI b)) s.2.1, s.2.2.1, s.2.2.2.1, true, s.2.2.2.2.2)) none SH I' L' _
      rw [tN_nI (show b < 2 ^ 31 by omega)]
      have hx : frX J7 L' I' L' := frX_pl (w := 2) (by omega) r6
      refine ⟨rfl, rfl, rfl, frX_tr hfx (frX_tr (frX_W hw7) hx), mrd_fr hm7 (fun j _ => by rw [r6 55 (by omega)]) (r6 56 (by omega)), hq7, ?_⟩
      exact mxg_pl (s := (s.1, s.2.1, s.2.2.1, s.2.2.2.1, true, s.2.2.2.2.2)) (mxg_W hg hw7) (by omega) r6 r5 k3
  · obtain ⟨⟨x8, rfl⟩, hm8⟩ := hn8 hc
    rw [if_neg hc]
    refine wv_istore_k (i := 2) dX8_readRow_50 rfl (by decide) ?_
    refine wv_aload_n dX8_readRow_51 rfl ?_
    refine wv_ldc2_w nX8_325 dX8_readRow_52 ?_
    refine wv_iload_n dX8_readRow_55 rfl ?_
    refine wv_aload_n dX8_readRow_56 rfl ?_
    refine wv_getI fX8_316 dX8_readRow_57 rfl (by first | assumption | rfl) ?_
    refine wv_iconst (v := 1) dX8_readRow_60 (by decide) ?_
    refine wv_isub dX8_readRow_61 ?_
    refine wv_v3e oX8_told kX8_286 dX8_readRow_62 (by omega) (by first | assumption | rfl) ⟨rfl, by decide⟩ (Nat.le_of_ble_eq_true rfl) (Nat.le_of_ble_eq_true rfl) (x_told9 (by rw [hm8.1]; exact hm8.2.2) _ _ _) ?_
    refine wv_istore_k (i := 3) dX8_readRow_65 rfl (by decide) ?_
    refine wv_iload_n dX8_readRow_66 rfl ?_
    refine wv_istore dX8_readRow_67 (by decide) ?_
    exact wv_le (by simp [wr_leq, wr_s1, wr_s2, wr_wide]) (x_rowF I L T _ J8 L8 2 x8 0 x8 hm8 (frX_tr hfx (frX_W hf98)))

