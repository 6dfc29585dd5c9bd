/-! the model: note, upper, hold, pop, settle, isOpen, rank, known -/
def ysk (f : Nat → Int32) : List Nat → Prop
  | [] => True
  | w :: W => f W.length = nI w ∧ ysk f W
theorem ysk_c {f g : Nat → Int32} : ∀ W : List Nat, (∀ i, i < W.length → g i = f i) → ysk f W → ysk g W := by
  intro W
  induction W with
  | nil => intro _ _; trivial
  | cons a W ih => intro h hs; exact ⟨by rw [h _ (by simp)]; exact hs.1, ih (fun i hi => h i (by simp; omega)) hs.2⟩
theorem ysk_d {f : Nat → Int32} : ∀ (n : Nat) (W : List Nat), ysk f W → ysk f (W.drop n) := by
  intro n
  induction n with
  | zero => intro W h; exact h
  | succ n ih =>
    intro W h
    cases W with
    | nil => trivial
    | cons a W => exact ih W h.2
def yM (I : wr_TI) (L : wr_TL) (T : TP) (s : PS) (W : List Nat) : Prop := mrd I L T s.1 ∧ I 55 43 = nI s.2.1.2 ∧ mlR s.2.1.1 s.2.1.2 (I 69) (I 70) ∧ I 55 45 = nI s.2.2 ∧ I 55 47 = nI W.length ∧ ysk (I 73) W ∧ I 55 48 = nI (ynd W)
def frY (I : wr_TI) (L : wr_TL) (I' : wr_TI) (L' : wr_TL) : Prop := (∀ b, b ≠ 55 → b ≠ 69 → b ≠ 70 → b ≠ 73 → I' b = I b) ∧ (∀ k, k ≠ 2 → k ≠ 3 → k ≠ 4 → k ≠ 6 → k ≠ 7 → k ≠ 8 → k ≠ 43 → k ≠ 45 → k ≠ 47 → k ≠ 48 → I' 55 k = I 55 k) ∧ (∀ b, b ≠ 55 → L' b = L b) ∧ ∀ k, k ≠ 9 → L' 55 k = L 55 k
theorem frY_rf {I : wr_TI} {L : wr_TL} : frY I L I L := ⟨fun _ _ _ _ _ => rfl, fun _ _ _ _ _ _ _ _ _ _ _ => rfl, fun _ _ => rfl, fun _ _ => rfl⟩
theorem frY_tr {I J K : wr_TI} {L M N : wr_TL} (h1 : frY I L J M) (h2 : frY J M K N) : frY I L K N := ⟨fun b b1 b2 b3 b4 => (h2.1 b b1 b2 b3 b4).trans (h1.1 b b1 b2 b3 b4), fun k q1 q2 q3 q4 q5 q6 q7 q8 q9 q0 => (h2.2.1 k q1 q2 q3 q4 q5 q6 q7 q8 q9 q0).trans (h1.2.1 k q1 q2 q3 q4 q5 q6 q7 q8 q9 q0), fun b hb => (h2.2.2.1 b hb).trans (h1.2.2.1 b hb), fun k hk => (h2.2.2.2 k hk).trans (h1.2.2.2 k hk)⟩
theorem frY_W {I J : wr_TI} {L M : wr_TL} (h : frW I L J M) : frY I L J M := ⟨fun b b1 _ _ _ => h.1 b b1, fun k q1 q2 q3 q4 q5 q6 _ _ _ _ => h.2.1 k q1 q2 q3 q4 q5 q6, h.2.2.1, h.2.2.2⟩
theorem mrd_fr {I I' : wr_TI} {L : wr_TL} {T : TP} {k : TK} (h : mrd I L T k) (h1 : ∀ j, j < 10 → I' 55 j = I 55 j) (h2 : I' 56 = I 56) : mrd I' L T k := by
  unfold mrd mkV mpV at h ⊢
  rw [h1 2 (by omega), h1 3 (by omega), h1 4 (by omega), h1 5 (by omega), h1 6 (by omega), h1 7 (by omega), h1 8 (by omega), h2]
  exact h
theorem yM_W {I J : wr_TI} {L M : wr_TL} {T : TP} {s : PS} {W : List Nat} {k : TK} (h : yM I L T s W) (hk : mrd J M T k) (hf : frW I L J M) : yM J M T (k, s.2) W := by
  obtain ⟨h1, h2, h3, h4, h5, h6, h7⟩ := h
  refine ⟨hk, ?_, ?_, ?_, ?_, ?_, ?_⟩
  · rw [hf.2.1 43 (by omega) (by omega) (by omega) (by omega) (by omega) (by omega)]; exact h2
  · rw [hf.1 69 (by omega), hf.1 70 (by omega)]; exact h3
  · rw [hf.2.1 45 (by omega) (by omega) (by omega) (by omega) (by omega) (by omega)]; exact h4
  · rw [hf.2.1 47 (by omega) (by omega) (by omega) (by omega) (by omega) (by omega)]; exact h5
  · rw [hf.1 73 (by omega)]; exact h6
  · rw [hf.2.1 48 (by omega) (by omega) (by omega) (by omega) (by omega) (by omega)]; exact h7
theorem mlR_ad {c W N W' N' : Nat → Int32} {n q : Nat} (h : mlR c n W N) (hq : q ≤ 20008) (h1 : ∀ j, j < n → W' j = W j ∧ N' j = N j) (h2 : W' n = nI (whN q)) (h3 : q < 10000 → N' n = nI q) : mlR (upd c n (nI q)) (n + 1) W' N' := by
  intro k hk z hz hz2
  by_cases e : k = n
  · subst e
    have : nI q = nI z := by rw [← hz]; simp [upd]
    have := (nI_eq (by omega) (by omega)).mp this
    subst this
    exact ⟨h2, h3⟩
  · have hz3 : c k = nI z := by rw [← hz]; simp [upd, e]
    obtain ⟨q1, q2⟩ := h k (by omega) z hz3 hz2
    obtain ⟨r1, r2⟩ := h1 k (by omega)
    exact ⟨r1.trans q1, fun z => r2.trans (q2 z)⟩
def ynI (I : wr_TI) (n : Nat) (a b : Int32) : wr_TI := wr_uI (wr_uI (wr_uI I 69 n a) 70 n b) 55 43 (nI (n + 1))
theorem yM_n {I : wr_TI} {L : wr_TL} {T : TP} {s : PS} {W : List Nat} {q : Nat} {b : Int32} (h : yM I L T s W) (hn : s.2.1.2 < 260) (hq : q ≤ 20008) (hb : q < 10000 → b = nI q) : yM (ynI I s.2.1.2 (nI (whN q)) b) L T (adC (nI q) s) W := by
  obtain ⟨h1, h2, h3, h4, h5, h6, h7⟩ := h
  have hne : ∀ a, a ≠ 55 → a ≠ 69 → a ≠ 70 → ynI I s.2.1.2 (nI (whN q)) b a = I a := fun a a1 a2 a3 => by unfold ynI; rw [wr_uI_ne a1, wr_uI_ne a3, wr_uI_ne a2]
  have h55 : ∀ k, k ≠ 43 → ynI I s.2.1.2 (nI (whN q)) b 55 k = I 55 k := fun k hk => by simp [ynI, wr_uI, hk]
  refine ⟨mrd_fr h1 (fun j hj => h55 j (by omega)) (hne 56 (by omega) (by omega) (by omega)), ?_, ?_, ?_, ?_, ?_, ?_⟩
  · rw [adC_n hn]; simp [ynI, wr_uI]
  · rw [adC_n hn]
    refine mlR_ad h3 hq (fun j hj => ⟨?_, ?_⟩) ?_ (fun z => ?_)
    · have : ¬ j = s.2.1.2 := by omega
      simp [ynI, wr_uI, this]
    · have : ¬ j = s.2.1.2 := by omega
      simp [ynI, wr_uI, this]
    · simp [ynI, wr_uI]
    · simp [ynI, wr_uI, hb z]
  · rw [h55 45 (by omega)]; exact h4
  · rw [h55 47 (by omega)]; exact h5
  · rw [hne 73 (by omega) (by omega) (by omega)]; exact h6
  · rw [h55 48 (by omega)]; exact h7
theorem frY_n {I : wr_TI} {L : wr_TL} {n : Nat} {a b : Int32} : frY I L (ynI I n a b) L := ⟨fun c c1 c2 c3 _ => by unfold ynI; rw [wr_uI_ne c1, wr_uI_ne c3, wr_uI_ne c2], fun k _ _ _ _ _ _ k7 _ _ _ => by simp [ynI, wr_uI, k7], fun _ _ => rfl, fun _ _ => rfl⟩
set_option maxHeartbeats 4000000 in
set_option maxRecDepth 100000 in
theorem x_note {l : Launch} {I : wr_TI} {L : wr_TL} {R : wr_TR} (hR : wr_RC R) (n : Nat) (hn : I 55 43 = nI n) (h3 : n < 300) (a b : Int32) : wr_E l 0 mX8_note [.ref 55, .int a, .int b] SH I L R none (ynI I n a b) L R := by
  refine wv_pad 0 ?_
  show wr_V l 0 mX8_note 0 [some (.ref 55), some (.int a), some (.int b)] [] SH I L R 0 0 _
  refine wv_aload_n dX8_note_0 rfl ?_
  refine wv_getR fX8_54 dX8_note_1 rfl (by first | assumption | rfl) (by first | exact hR _ _ _ rfl | assumption) ?_
  refine wv_aload_n dX8_note_4 rfl ?_
  refine wv_getI fX8_221 dX8_note_5 rfl (by first | assumption | rfl) ?_
  rw [hn]
  refine wv_iload_n dX8_note_8 rfl ?_
  refine wv_iastN dX8_note_9 (by first | assumption | rfl) (by omega) (by decide) ?_
  refine wv_aload_n dX8_note_10 rfl ?_
  refine wv_getR fX8_57 dX8_note_11 rfl (by first | assumption | rfl) (by first | exact hR _ _ _ rfl | assumption) ?_
  refine wv_aload_n dX8_note_14 rfl ?_
  refine wv_getI fX8_221 dX8_note_15 rfl (by first | assumption | rfl) ?_
  rw [wr_uI_ne (by omega), hn]
  refine wv_iload_n dX8_note_18 rfl ?_
  refine wv_iastN dX8_note_19 (by first | assumption | rfl) (by omega) (by decide) ?_
  refine wv_aload_n dX8_note_20 rfl ?_
  refine wv_dup dX8_note_21 rfl ?_
  refine wv_getI fX8_221 dX8_note_22 rfl (by first | assumption | rfl) ?_
  refine wv_iconst (v := 1) dX8_note_25 (by decide) ?_
  refine wv_iadd dX8_note_26 ?_
  refine wv_putI fX8_221 dX8_note_27 rfl rfl rfl rfl (by first | assumption | rfl) ?_
  refine wv_ret (x := ()) rfl dX8_note_30 ?_
  refine ⟨rfl, rfl, ?_, rfl, rfl⟩
  unfold ynI
  rw [wr_uI_ne (by omega), wr_uI_ne (by omega), hn, nI_1]

set_option maxHeartbeats 4000000 in
set_option maxRecDepth 100000 in
theorem x_upper {l : Launch} {I : wr_TI} {L : wr_TL} {R : wr_TR} (hR : wr_RC R) (W : List Nat) (h1 : I 55 47 = nI W.length) (h2 : ysk (I 73) W) (h3 : W.length ≤ 300) : wr_E l 0 mX8_upper [.ref 55] SH I L R (some (.int (nI (ytp W)))) I L R := by
  cases W with
  | nil =>
    have h1 : I 55 47 = 0 := h1
    refine wv_pad 0 ?_
    show wr_V l 0 mX8_upper 0 [some (.ref 55)] [] SH I L R 0 0 _
    refine wv_aload_n dX8_upper_0 rfl ?_
    refine wv_getI fX8_224 dX8_upper_1 rfl (by first | assumption | rfl) ?_
    refine wv_if_ne (tgt := 12) dX8_upper_4 (by decide) (fun h4 => absurd h1 h4) (fun h4 => ?_)
    refine wv_bipush (v := 30) dX8_upper_7 (by decide) ?_
    refine wv_goto (tgt := 23) dX8_upper_9 (by decide) ?_
    refine wv_iret rfl dX8_upper_23 ?_
    exact ⟨rfl, rfl, rfl, rfl, rfl⟩
  | cons a W =>
    rw [List.length_cons] at h1 h3
    refine wv_pad 0 ?_
    show wr_V l 0 mX8_upper 0 [some (.ref 55)] [] SH I L R 0 0 _
    refine wv_aload_n dX8_upper_0 rfl ?_
    refine wv_getI fX8_224 dX8_upper_1 rfl (by first | assumption | rfl) ?_
    refine wv_if_ne (tgt := 12) dX8_upper_4 (by decide) (fun h4 => ?_) (fun h4 => absurd h4 (by rw [h1]; exact nI_ne0 (by omega) (by omega)))
    refine wv_aload_n dX8_upper_12 rfl ?_
    refine wv_getR fX8_66 dX8_upper_13 rfl (by first | assumption | rfl) (by first | exact hR _ _ _ rfl | assumption) ?_
    refine wv_aload_n dX8_upper_16 rfl ?_
    refine wv_getI fX8_224 dX8_upper_17 rfl (by first | assumption | rfl) ?_
    rw [h1]
    refine wv_iconst (v := 1) dX8_upper_20 (by decide) ?_
    refine wv_isub dX8_upper_21 ?_
    rw [nI_pred]
    refine wv_ialdN dX8_upper_22 (by first | assumption | rfl) (by omega) (by decide) ?_
    rw [h2.1]
    refine wv_iret rfl dX8_upper_23 ?_
    exact ⟨rfl, rfl, rfl, rfl, rfl⟩

set_option maxHeartbeats 4000000 in
set_option maxRecDepth 100000 in
theorem x_hold {l : Launch} {I : wr_TI} {L : wr_TL} {R : wr_TR} (hR : wr_RC R) (T : TP) (s : PS) (W : List Nat) (v : Nat) (h : yM I L T s W) (h3 : W.length < 300) (hv : v ≤ 30) : wr_P l 0 mX8_hold [.ref 55, .int (nI v)] SH I L R (fun q s' I' L' R' => q = none ∧ s' = SH ∧ L' = L ∧ R' = R ∧ yM I' L T s (v :: W) ∧ frY I L I' L) := by
  obtain ⟨h1, h2, h3, h4, h5, h6, h7⟩ := id h
  have done : ∀ J : wr_TI, (∀ b, b ≠ 55 → b ≠ 73 → J b = I b) → (∀ k, k ≠ 47 → k ≠ 48 → J 55 k = I 55 k) → (∀ i, i < W.length → J 73 i = I 73 i) → J 73 W.length = nI v → J 55 47 = nI (W.length + 1) → J 55 48 = nI (ynd (v :: W)) → yM J L T s (v :: W) ∧ frY I L J L := by
    intro J j1 j2 j3 j4 j5 j6
    refine ⟨⟨mrd_fr h1 (fun j hj => j2 j (by omega) (by omega)) (j1 56 (by omega) (by omega)), by rw [j2 43 (by omega) (by omega)]; exact h2, by rw [j1 69 (by omega) (by omega), j1 70 (by omega) (by omega)]; exact h3, by rw [j2 45 (by omega) (by omega)]; exact h4, j5, ⟨j4, ysk_c W j3 h6⟩, j6⟩, fun b b1 _ _ b4 => j1 b b1 b4, fun k _ _ _ _ _ _ _ _ k9 k0 => j2 k k9 k0, fun _ _ => rfl, fun _ _ => rfl⟩
  have fin : ∀ x : Int32, x = nI (ynd (v :: W)) → yM (wr_uI (wr_uI (wr_uI I 73 W.length (nI v)) 55 47 (nI (W.length + 1))) 55 48 x) L T s (v :: W) ∧ frY I L (wr_uI (wr_uI (wr_uI I 73 W.length (nI v)) 55 47 (nI (W.length + 1))) 55 48 x) L := by
    intro x hx
    refine done _ (fun b b1 b2 => by rw [wr_uI_ne b1, wr_uI_ne b1, wr_uI_ne b2]) (fun k k1 k2 => by simp [wr_uI, k1, k2]) (fun i hi => ?_) (by simp [wr_uI]) (by simp [wr_uI]) (by simp [wr_uI, hx])
    have : ¬ i = W.length := by omega
    simp [wr_uI, this]
  have fin2 : ynd (v :: W) = ynd W → yM (wr_uI (wr_uI I 73 W.length (nI v)) 55 47 (nI (W.length + 1))) L T s (v :: W) ∧ frY I L (wr_uI (wr_uI I 73 W.length (nI v)) 55 47 (nI (W.length + 1))) L := by
    intro e
    refine done _ (fun b b1 b2 => by rw [wr_uI_ne b1, wr_uI_ne b2]) (fun k k1 k2 => by simp [wr_uI, k1]) (fun i hi => ?_) (by simp [wr_uI]) (by simp [wr_uI]) (by rw [e]; simp [wr_uI, h7])
    have : ¬ i = W.length := by omega
    simp [wr_uI, this]
  refine wv_pad 0 ?_
  show wr_V l 0 mX8_hold 0 [some (.ref 55), some (.int (nI v))] [] SH I L R 0 0 _
  refine wv_aload_n dX8_hold_0 rfl ?_
  refine wv_getR fX8_66 dX8_hold_1 rfl (by first | assumption | rfl) (by first | exact hR _ _ _ rfl | assumption) ?_
  refine wv_aload_n dX8_hold_4 rfl ?_
  refine wv_getI fX8_224 dX8_hold_5 rfl (by first | assumption | rfl) ?_
  rw [h5]
  refine wv_iload_n dX8_hold_8 rfl ?_
  refine wv_iastN dX8_hold_9 (by first | assumption | rfl) (by omega) (by decide) ?_
  refine wv_aload_n dX8_hold_10 rfl ?_
  refine wv_dup dX8_hold_11 rfl ?_
  refine wv_getI fX8_224 dX8_hold_12 rfl (by first | assumption | rfl) ?_
  rw [wr_uI_ne (by omega), h5]
  refine wv_iconst (v := 1) dX8_hold_15 (by decide) ?_
  refine wv_iadd dX8_hold_16 ?_
  rw [nI_1]
  refine wv_putI fX8_224 dX8_hold_17 rfl rfl rfl rfl (by first | assumption | rfl) ?_
  refine wv_iload_n dX8_hold_20 rfl ?_
  refine wv_bipush (v := 30) dX8_hold_21 (by decide) ?_
  refine wv_icmp_eq (tgt := 32) dX8_hold_23 (by decide) (fun h23 => ?_) (fun h23 => ?_)
  · have hv1 : v = 30 ∨ v = 22 := .inl ((nI_eq (b := 30) (by omega) (by omega)).mp h23)
    refine wv_aload_n dX8_hold_32 rfl ?_
    refine wv_dup dX8_hold_33 rfl ?_
    refine wv_getI fX8_227 dX8_hold_34 rfl (by first | assumption | rfl) ?_
    refine wv_iconst (v := 1) dX8_hold_37 (by decide) ?_
    refine wv_iadd dX8_hold_38 ?_
    refine wv_putI fX8_227 dX8_hold_39 rfl rfl rfl rfl (by first | assumption | rfl) ?_
    refine wv_ret (x := ()) rfl dX8_hold_42 ?_
    refine ⟨rfl, rfl, rfl, rfl, ?_⟩
    first
      | (have _ := hv1
         refine fin _ ?_
         simp only [ynd, if_pos hv1, wr_uI]
         rw [if_neg (by omega), if_neg (by omega), h7, nI_1, Nat.add_comm])
      | (have _ := hv2
         refine fin2 ?_
         simp only [ynd, if_neg hv2, Nat.zero_add])
  · have hv0 : ¬ v = 30 := fun z => h23 (by rw [z]; rfl)
    refine wv_iload_n dX8_hold_26 rfl ?_
    refine wv_bipush (v := 22) dX8_hold_27 (by decide) ?_
    refine wv_icmp_ne (tgt := 42) dX8_hold_29 (by decide) (fun h29 => ?_) (fun h29 => ?_)
    · have hv2 : ¬ (v = 30 ∨ v = 22) := fun z => z.elim hv0 (fun z => h29 (by rw [z]; rfl))
      refine wv_ret (x := ()) rfl dX8_hold_42 ?_
      refine ⟨rfl, rfl, rfl, rfl, ?_⟩
      first
        | (have _ := hv1
           refine fin _ ?_
           simp only [ynd, if_pos hv1, wr_uI]
           rw [if_neg (by omega), if_neg (by omega), h7, nI_1, Nat.add_comm])
        | (have _ := hv2
           refine fin2 ?_
           simp only [ynd, if_neg hv2, Nat.zero_add])
    · have hv1 : v = 30 ∨ v = 22 := .inr ((nI_eq (b := 22) (by omega) (by omega)).mp h29)
      refine wv_aload_n dX8_hold_32 rfl ?_
      refine wv_dup dX8_hold_33 rfl ?_
      refine wv_getI fX8_227 dX8_hold_34 rfl (by first | assumption | rfl) ?_
      refine wv_iconst (v := 1) dX8_hold_37 (by decide) ?_
      refine wv_iadd dX8_hold_38 ?_
      refine wv_putI fX8_227 dX8_hold_39 rfl rfl rfl rfl (by first | assumption | rfl) ?_
      refine wv_ret (x := ()) rfl dX8_hold_42 ?_
      refine ⟨rfl, rfl, rfl, rfl, ?_⟩
      first
        | (have _ := hv1
           refine fin _ ?_
           simp only [ynd, if_pos hv1, wr_uI]
           rw [if_neg (by omega), if_neg (by omega), h7, nI_1, Nat.add_comm])
        | (have _ := hv2
           refine fin2 ?_
           simp only [ynd, if_neg hv2, Nat.zero_add])

set_option maxHeartbeats 4000000 in
set_option maxRecDepth 100000 in
theorem x_pop {l : Launch} {I : wr_TI} {L : wr_TL} {R : wr_TR} (hR : wr_RC R) (T : TP) (s : PS) (v : Nat) (W : List Nat) (h : yM I L T s (v :: W)) (h3 : W.length < 300) (hn : s.2.1.2 < 260) (hv : 20 ≤ v ∧ v < 29) : wr_P l 1 mX8_pop [.ref 55] SH I L R (fun q s' I' L' R' => q = none ∧ s' = SH ∧ L' = L ∧ R' = R ∧ yM I' L T (adC (nI (cQ v)) s) W ∧ frY I L I' L) := by
  obtain ⟨h1, h2, h3, h4, h5, ⟨h6, h8⟩, h7⟩ := id h
  obtain ⟨c1, c2, c3⟩ := cQ_ok v hv.2 hv.1
  rw [List.length_cons] at h5
  have done : ∀ J : wr_TI, (∀ b, b ≠ 55 → J b = I b) → (∀ k, k ≠ 47 → k ≠ 48 → J 55 k = I 55 k) → J 55 47 = nI W.length → J 55 48 = nI (ynd W) → yM J L T s W ∧ frY I L J L := by
    intro J j1 j2 j5 j6
    refine ⟨⟨mrd_fr h1 (fun j hj => j2 j (by omega) (by omega)) (j1 56 (by omega)), by rw [j2 43 (by omega) (by omega)]; exact h2, by rw [j1 69 (by omega), j1 70 (by omega)]; exact h3, by rw [j2 45 (by omega) (by omega)]; exact h4, j5, by rw [j1 73 (by omega)]; exact h8, j6⟩, fun b b1 _ _ b4 => j1 b b1, fun k _ _ _ _ _ _ _ _ k9 k0 => j2 k k9 k0, fun _ _ => rfl, fun _ _ => rfl⟩
  have go : ∀ J : wr_TI, yM J L T s W → J 73 = I 73 → frY I L J L → wr_V l 1 mX8_pop 34 [some (.ref 55)] [] SH J L R 0 0 (fun q s' I' L' R' => q = none ∧ s' = SH ∧ L' = L ∧ R' = R ∧ yM I' L T (adC (nI (cQ v)) s) W ∧ frY I L I' L) := by
    intro J hJ h73 hf
    have e47 := hJ.2.2.2.2.1
    refine wv_aload_n dX8_pop_34 rfl ?_
    refine wv_aload_n dX8_pop_35 rfl ?_
    refine wv_getR fX8_66 dX8_pop_36 rfl (by first | assumption | rfl) (by first | exact hR _ _ _ rfl | assumption) ?_
    refine wv_aload_n dX8_pop_39 rfl ?_
    refine wv_getI fX8_224 dX8_pop_40 rfl (by first | assumption | rfl) ?_
    rw [e47]
    refine wv_ialdN dX8_pop_43 (by first | assumption | rfl) (by omega) (by decide) ?_
    rw [h73, h6]
    refine wv_iconst (v := 0) dX8_pop_44 (by decide) ?_
    refine wv_v2u oX8_note kX8_230 dX8_pop_45 (by omega) (by first | assumption | rfl) ⟨rfl, by decide⟩ (Nat.le_of_ble_eq_true rfl) (Nat.le_of_ble_eq_true rfl) (x_note hR s.2.1.2 hJ.2.1 (by omega) _ _) ?_
    refine wv_ret (x := ()) rfl dX8_pop_48 ?_
    have := yM_n (b := 0) hJ hn c1 (fun z => by omega)
    rw [c3] at this
    exact ⟨rfl, rfl, rfl, rfl, this, frY_tr hf frY_n⟩
  refine wv_pad 0 ?_
  show wr_V l 1 mX8_pop 0 [some (.ref 55)] [] SH I L R 0 0 _
  refine wv_aload_n dX8_pop_0 rfl ?_
  refine wv_dup dX8_pop_1 rfl ?_
  refine wv_getI fX8_224 dX8_pop_2 rfl (by first | assumption | rfl) ?_
  rw [h5]
  refine wv_iconst (v := 1) dX8_pop_5 (by decide) ?_
  refine wv_isub dX8_pop_6 ?_
  rw [nI_pred]
  refine wv_putI fX8_224 dX8_pop_7 rfl rfl rfl rfl (by first | assumption | rfl) ?_
  refine wv_aload_n dX8_pop_10 rfl ?_
  refine wv_getR fX8_66 dX8_pop_11 rfl (by first | assumption | rfl) (by first | exact hR _ _ _ rfl | assumption) ?_
  refine wv_aload_n dX8_pop_14 rfl ?_
  refine wv_getI fX8_224 dX8_pop_15 rfl (by first | assumption | rfl) ?_
  rw [show wr_uI I 55 47 (nI W.length) 55 47 = nI W.length by simp [wr_uI]]
  refine wv_ialdN dX8_pop_18 (by first | assumption | rfl) (by omega) (by decide) ?_
  rw [wr_uI_ne (by omega), h6]
  refine wv_bipush (v := 22) dX8_pop_19 (by decide) ?_
  refine wv_icmp_ne (tgt := 34) dX8_pop_21 (by decide) (fun h21 => ?_) (fun h21 => ?_)
  · have hv2 : ¬ v = 22 := fun z => h21 (by rw [z]; rfl)
    have e48 : ynd (v :: W) = (if v = 30 ∨ v = 22 then 1 else 0) + ynd W := rfl
    first
      | (have _ : ¬ v = 22 := hv2
         rw [if_neg (by omega), Nat.zero_add] at e48
         rw [e48] at h7
         obtain ⟨q1, q2⟩ := done (wr_uI I 55 47 (nI W.length)) (fun b hb => wr_uI_ne hb) (fun k k1 k2 => by simp [wr_uI, k1]) (by simp [wr_uI]) (by simp [wr_uI, h7])
         exact wv_le (by simp [wr_leq, wr_s1, wr_s2, wr_wide]) (go _ q1 (wr_uI_ne (by omega)) q2))
      | (have _ : v = 22 := hv2
         rw [if_pos (by omega), Nat.add_comm] at e48
         rw [e48] at h7
         have e9 : wr_uI I 55 47 (nI W.length) 55 48 - 1 = nI (ynd W) := by
           rw [show wr_uI I 55 47 (nI W.length) 55 48 = I 55 48 by simp [wr_uI], h7, nI_pred]
         rw [e9]
         obtain ⟨q1, q2⟩ := done (wr_uI (wr_uI I 55 47 (nI W.length)) 55 48 (nI (ynd W))) (fun b hb => by rw [wr_uI_ne hb, wr_uI_ne hb]) (fun k k1 k2 => by simp [wr_uI, k1, k2]) (by simp [wr_uI]) (by simp [wr_uI])
         exact wv_le (by simp [wr_leq, wr_s1, wr_s2, wr_wide]) (go _ q1 (by rw [wr_uI_ne (by omega), wr_uI_ne (by omega)]) q2))
  · have hv2 : v = 22 := (nI_eq (b := 22) (by omega) (by omega)).mp h21
    refine wv_aload_n dX8_pop_24 rfl ?_
    refine wv_dup dX8_pop_25 rfl ?_
    refine wv_getI fX8_227 dX8_pop_26 rfl (by first | assumption | rfl) ?_
    refine wv_iconst (v := 1) dX8_pop_29 (by decide) ?_
    refine wv_isub dX8_pop_30 ?_
    refine wv_putI fX8_227 dX8_pop_31 rfl rfl rfl rfl (by first | assumption | rfl) ?_
    have e48 : ynd (v :: W) = (if v = 30 ∨ v = 22 then 1 else 0) + ynd W := rfl
    first
      | (have _ : ¬ v = 22 := hv2
         rw [if_neg (by omega), Nat.zero_add] at e48
         rw [e48] at h7
         obtain ⟨q1, q2⟩ := done (wr_uI I 55 47 (nI W.length)) (fun b hb => wr_uI_ne hb) (fun k k1 k2 => by simp [wr_uI, k1]) (by simp [wr_uI]) (by simp [wr_uI, h7])
         exact wv_le (by simp [wr_leq, wr_s1, wr_s2, wr_wide]) (go _ q1 (wr_uI_ne (by omega)) q2))
      | (have _ : v = 22 := hv2
         rw [if_pos (by omega), Nat.add_comm] at e48
         rw [e48] at h7
         have e9 : wr_uI I 55 47 (nI W.length) 55 48 - 1 = nI (ynd W) := by
           rw [show wr_uI I 55 47 (nI W.length) 55 48 = I 55 48 by simp [wr_uI], h7, nI_pred]
         rw [e9]
         obtain ⟨q1, q2⟩ := done (wr_uI (wr_uI I 55 47 (nI W.length)) 55 48 (nI (ynd W))) (fun b hb => by rw [wr_uI_ne hb, wr_uI_ne hb]) (fun k k1 k2 => by simp [wr_uI, k1, k2]) (by simp [wr_uI]) (by simp [wr_uI])
         exact wv_le (by simp [wr_leq, wr_s1, wr_s2, wr_wide]) (go _ q1 (by rw [wr_uI_ne (by omega), wr_uI_ne (by omega)]) q2))

set_option maxHeartbeats 4000000 in
set_option maxRecDepth 100000 in
theorem x_settle {l : Launch} {I : wr_TI} {L : wr_TL} {R : wr_TR} (hR : wr_RC R) (T : TP) (r : Nat) (hr : r < 40) : ∀ (W : List Nat) (I : wr_TI) (s : PS), yM I L T s W → (∀ w, w ∈ W → 20 ≤ w ∧ w ≤ 30 ∧ w ≠ 29) → s.2.1.2 + W.length ≤ 260 → wr_P l 2 mX8_settle [.ref 55, .int (nI r)] SH I L R (fun q s' I' L' R' => q = none ∧ s' = SH ∧ L' = L ∧ R' = R ∧ yM I' L T (ystl r W s).1 (ystl r W s).2 ∧ frY I L I' L) := by
  have key : ∀ (W : List Nat) (I : wr_TI) (s : PS), yM I L T s W → (∀ w, w ∈ W → 20 ≤ w ∧ w ≤ 30 ∧ w ≠ 29) → s.2.1.2 + W.length ≤ 260 → wr_V l 2 mX8_settle 0 [some (.ref 55), some (.int (nI r))] [] SH I L R 0 0 (fun q s' I' L' R' => q = none ∧ s' = SH ∧ L' = L ∧ R' = R ∧ yM I' L T (ystl r W s).1 (ystl r W s).2 ∧ frY I L I' L) := by
    intro W
    induction W with
    | nil =>
      intro I s h hw hb
      refine wv_aload_n dX8_settle_0 rfl ?_
      refine wv_v0e oX8_upper kX8_234 dX8_settle_1 (by omega) (by first | assumption | rfl) ⟨rfl, by decide⟩ (Nat.le_of_ble_eq_true rfl) (Nat.le_of_ble_eq_true rfl) (x_upper hR [] h.2.2.2.2.1 h.2.2.2.2.2.1 (by simp)) ?_
      refine wv_bipush (v := 30) dX8_settle_4 (by decide) ?_
      refine wv_icmp_eq (tgt := 24) dX8_settle_6 (by decide) (fun h6 => ?_) (fun h6 => absurd (show nI (ytp []) = 30 from rfl) h6)
      refine wv_ret (x := ()) rfl dX8_settle_24 ?_
      exact ⟨rfl, rfl, rfl, rfl, h, frY_rf⟩
    | cons v W ih =>
      intro I s h hw hb
      have hv := hw v (List.mem_cons_self ..)
      have hlen : (v :: W).length ≤ 300 := by omega
      rw [List.length_cons] at hb
      simp only [ystl]
      by_cases h30 : v = 30
      · rw [if_pos (.inl h30)]
        subst h30
        refine wv_aload_n dX8_settle_0 rfl ?_
        refine wv_v0e oX8_upper kX8_234 dX8_settle_1 (by omega) (by first | assumption | rfl) ⟨rfl, by decide⟩ (Nat.le_of_ble_eq_true rfl) (Nat.le_of_ble_eq_true rfl) (x_upper hR (30 :: W) h.2.2.2.2.1 h.2.2.2.2.2.1 hlen) ?_
        refine wv_bipush (v := 30) dX8_settle_4 (by decide) ?_
        refine wv_icmp_eq (tgt := 24) dX8_settle_6 (by decide) (fun h6 => ?_) (fun h6 => absurd (show nI (ytp (30 :: W)) = 30 from rfl) h6)
        refine wv_ret (x := ()) rfl dX8_settle_24 ?_
        exact ⟨rfl, rfl, rfl, rfl, h, frY_rf⟩
      · have n30 : ¬ nI v = 30 := fun z => h30 ((nI_eq (b := 30) (by omega) (by omega)).mp z)
        by_cases hlt : v < r
        · rw [if_pos (.inr hlt)]
          refine wv_aload_n dX8_settle_0 rfl ?_
          refine wv_v0e oX8_upper kX8_234 dX8_settle_1 (by omega) (by first | assumption | rfl) ⟨rfl, by decide⟩ (Nat.le_of_ble_eq_true rfl) (Nat.le_of_ble_eq_true rfl) (x_upper hR (v :: W) h.2.2.2.2.1 h.2.2.2.2.2.1 hlen) ?_
          refine wv_bipush (v := 30) dX8_settle_4 (by decide) ?_
          refine wv_icmp_eq (tgt := 24) dX8_settle_6 (by decide) (fun h6 => absurd h6 n30) (fun h6 => ?_)
          refine wv_aload_n dX8_settle_9 rfl ?_
          refine wv_v0e oX8_upper kX8_234 dX8_settle_10 (by omega) (by first | assumption | rfl) ⟨rfl, by decide⟩ (Nat.le_of_ble_eq_true rfl) (Nat.le_of_ble_eq_true rfl) (x_upper hR (v :: W) h.2.2.2.2.1 h.2.2.2.2.2.1 hlen) ?_
          refine wv_iload_n dX8_settle_13 rfl ?_
          refine wv_icmp_lt (tgt := 24) dX8_settle_14 (by decide) (fun h14 => ?_) (fun h14 => absurd (nI_lt hlt (by omega)) h14)
          refine wv_ret (x := ()) rfl dX8_settle_24 ?_
          exact ⟨rfl, rfl, rfl, rfl, h, frY_rf⟩
        · rw [if_neg (by omega)]
          have hn := adC_n (x := nI (cQ v)) (s := s) (by omega)
          refine wv_aload_n dX8_settle_0 rfl ?_
          refine wv_v0e oX8_upper kX8_234 dX8_settle_1 (by omega) (by first | assumption | rfl) ⟨rfl, by decide⟩ (Nat.le_of_ble_eq_true rfl) (Nat.le_of_ble_eq_true rfl) (x_upper hR (v :: W) h.2.2.2.2.1 h.2.2.2.2.2.1 hlen) ?_
          refine wv_bipush (v := 30) dX8_settle_4 (by decide) ?_
          refine wv_icmp_eq (tgt := 24) dX8_settle_6 (by decide) (fun h6 => absurd h6 n30) (fun h6 => ?_)
          refine wv_aload_n dX8_settle_9 rfl ?_
          refine wv_v0e oX8_upper kX8_234 dX8_settle_10 (by omega) (by first | assumption | rfl) ⟨rfl, by decide⟩ (Nat.le_of_ble_eq_true rfl) (Nat.le_of_ble_eq_true rfl) (x_upper hR (v :: W) h.2.2.2.2.1 h.2.2.2.2.2.1 hlen) ?_
          refine wv_iload_n dX8_settle_13 rfl ?_
          refine wv_icmp_lt (tgt := 24) dX8_settle_14 (by decide) (fun h14 => absurd h14 (show ¬ nI v < nI r from nI_nlt (by omega) (by omega))) (fun h14 => ?_)
          refine wv_aload_n dX8_settle_17 rfl ?_
          refine wv_v0 oX8_pop kX8_238 dX8_settle_18 (by omega) (by first | assumption | rfl) ⟨rfl, by decide⟩ (Nat.le_of_ble_eq_true rfl) (Nat.le_of_ble_eq_true rfl) (x_pop hR T s v W h (by omega) (by omega) (by omega)) (fun v9 s9 J9 L9 R9 h9 => ?_)
          obtain ⟨rfl, rfl, rfl, rfl, hm9, hf9⟩ := h9
          refine wv_goto (tgt := 0) dX8_settle_21 (by decide) ?_
          refine wr_V.imp (wv_le (by simp [wr_leq, wr_s1, wr_s2, wr_wide]) (ih J9 _ hm9 (fun w hw' => hw w (List.mem_cons_of_mem _ hw')) (by rw [hn]; show s.2.1.2 + 1 + W.length ≤ 260; omega))) (fun q s' I' L' R' hq => ?_)
          obtain ⟨q1, q2, q3, q4, q5, q6⟩ := hq
          exact ⟨q1, q2, q3, q4, q5, frY_tr hf9 q6⟩
  intro W I s h hw hb
  exact key W I s h hw hb
set_option maxHeartbeats 4000000 in
set_option maxRecDepth 100000 in
theorem x_isOpen {l : Launch} {I : wr_TI} {L : wr_TL} {R : wr_TR} (hR : wr_RC R) (W : List Nat) (h5 : I 55 47 = nI W.length) (h6 : ysk (I 73) W) (hl : W.length ≤ 300) (hw : ∀ w, w ∈ W → w ≤ 30) : wr_E l 0 mX8_isOpen [.ref 55] SH I L R (some (.int (bI (yop W)))) I L R := by
  have lp : ∀ (n : Nat) (W1 : List Nat), W1 = W.drop n → n ≤ W.length → wr_V l 0 mX8_isOpen 4 [some (.ref 55), some (.int (bI (yop W1))), some (.int (nI W1.length))] [] SH I L R 0 0 (wr_EQ (some (.int (bI (yop W)))) SH I L R) := by
    intro n
    induction n with
    | zero =>
      intro W1 e _
      have e : W1 = W := e
      subst e
      refine wv_iload_n dX8_isOpen_4 rfl ?_
      refine wv_aload_n dX8_isOpen_5 rfl ?_
      refine wv_getI fX8_224 dX8_isOpen_6 rfl (by first | assumption | rfl) ?_
      rw [h5]
      refine wv_icmp_ge (tgt := 39) dX8_isOpen_9 (by decide) (fun h9 => ?_) (fun h9 => absurd (Int32.le_refl _) h9)
      refine wv_iload_n dX8_isOpen_39 rfl ?_
      refine wv_zret rfl (bI_nar _) dX8_isOpen_40 ?_
      exact ⟨rfl, rfl, rfl, rfl, rfl⟩
    | succ n ih =>
      intro W1 e hn
      have ed : W.drop n = W[n] :: W1 := by rw [e]; exact List.drop_eq_getElem_cons (by omega)
      have hk := ysk_d n W h6
      rw [ed] at hk
      have hwn := hw W[n] (List.getElem_mem (by omega))
      have hlen : W1.length + n + 1 = W.length := by rw [e, List.length_drop]; omega
      have ih := ih (W[n] :: W1) ed.symm (by omega)
      rw [List.length_cons] at ih
      simp only [yop] at ih
      refine wv_iload_n dX8_isOpen_4 rfl ?_
      refine wv_aload_n dX8_isOpen_5 rfl ?_
      refine wv_getI fX8_224 dX8_isOpen_6 rfl (by first | assumption | rfl) ?_
      rw [h5]
      refine wv_icmp_ge (tgt := 39) dX8_isOpen_9 (by decide) (fun h9 => absurd h9 (nI_ge (by omega) (by omega))) (fun h9 => ?_)
      refine wv_iload_n dX8_isOpen_12 rfl ?_
      refine wv_if_ne (tgt := 27) dX8_isOpen_13 (by decide) (fun h13 => ?_) (fun h13 => ?_)
      · have h13 : yop W1 = true := by
          cases hy : yop W1 with
          | true => rfl
          | false => rw [hy] at h13; exact absurd rfl h13
        refine wv_iconst (v := 1) dX8_isOpen_27 (by decide) ?_
        refine wv_goto (tgt := 32) dX8_isOpen_28 (by decide) ?_
        first
          | (have _ := h24; rw [← e24])
          | (have e13 : bI (decide (W[n] = 30) || yop W1) = 1 := by rw [h13, Bool.or_true]; rfl
             rw [← e13])
        refine wv_istore_k (i := 1) dX8_isOpen_32 rfl (by decide) ?_
        refine wv_iinc (v := nI (W1.length + 1)) dX8_isOpen_33 rfl (nI_1 (W1.length)) (by decide) ?_
        refine wv_goto (tgt := 4) dX8_isOpen_36 (by decide) ?_
        exact wv_le (by simp [wr_leq, wr_s1, wr_s2, wr_wide]) ih
      · have h13 : yop W1 = false := bI_0.mp h13
        refine wv_aload_n dX8_isOpen_16 rfl ?_
        refine wv_getR fX8_66 dX8_isOpen_17 rfl (by first | assumption | rfl) (by first | exact hR _ _ _ rfl | assumption) ?_
        refine wv_iload_n dX8_isOpen_20 rfl ?_
        refine wv_ialdN dX8_isOpen_21 (by first | assumption | rfl) (by omega) (by decide) ?_
        rw [hk.1]
        refine wv_bipush (v := 30) dX8_isOpen_22 (by decide) ?_
        refine wv_icmp_ne (tgt := 31) dX8_isOpen_24 (by decide) (fun h24 => ?_) (fun h24 => ?_)
        · have e24 : bI (decide (W[n] = 30) || yop W1) = 0 := by
            rw [h13, decide_eq_false (fun z => h24 (by rw [z]; rfl))]; rfl
          refine wv_iconst (v := 0) dX8_isOpen_31 (by decide) ?_
          first
            | (have _ := h24; rw [← e24])
            | (have e13 : bI (decide (W[n] = 30) || yop W1) = 1 := by rw [h13, Bool.or_true]; rfl
               rw [← e13])
          refine wv_istore_k (i := 1) dX8_isOpen_32 rfl (by decide) ?_
          refine wv_iinc (v := nI (W1.length + 1)) dX8_isOpen_33 rfl (nI_1 (W1.length)) (by decide) ?_
          refine wv_goto (tgt := 4) dX8_isOpen_36 (by decide) ?_
          exact wv_le (by simp [wr_leq, wr_s1, wr_s2, wr_wide]) ih
        · have e24 : bI (decide (W[n] = 30) || yop W1) = 1 := by
            rw [decide_eq_true ((nI_eq (b := 30) (by omega) (by omega)).mp h24)]; rfl
          refine wv_iconst (v := 1) dX8_isOpen_27 (by decide) ?_
          refine wv_goto (tgt := 32) dX8_isOpen_28 (by decide) ?_
          first
            | (have _ := h24; rw [← e24])
            | (have e13 : bI (decide (W[n] = 30) || yop W1) = 1 := by rw [h13, Bool.or_true]; rfl
               rw [← e13])
          refine wv_istore_k (i := 1) dX8_isOpen_32 rfl (by decide) ?_
          refine wv_iinc (v := nI (W1.length + 1)) dX8_isOpen_33 rfl (nI_1 (W1.length)) (by decide) ?_
          refine wv_goto (tgt := 4) dX8_isOpen_36 (by decide) ?_
          exact wv_le (by simp [wr_leq, wr_s1, wr_s2, wr_wide]) ih
  have l0 := lp W.length [] (by simp) (Nat.le_refl _)
  change wr_V l 0 mX8_isOpen 4 [some (.ref 55), some (.int 0), some (.int 0)] [] SH I L R 0 0 _ at l0
  refine wv_pad 2 ?_
  show wr_V l 0 mX8_isOpen 0 [some (.ref 55), none, none] [] SH I L R 0 0 _
  refine wv_iconst (v := 0) dX8_isOpen_0 (by decide) ?_
  refine wv_istore_k (i := 1) dX8_isOpen_1 rfl (by decide) ?_
  refine wv_iconst (v := 0) dX8_isOpen_2 (by decide) ?_
  refine wv_istore_k (i := 2) dX8_isOpen_3 rfl (by decide) ?_
  exact wv_le (by simp [wr_leq, wr_s1, wr_s2, wr_wide]) l0

def rkI (x : Int32) : Int32 := if x = 27 then 26 else if x = 24 ∨ x = 25 then 23 else x
theorem rkI_n : ∀ v, v < 31 → rkI (nI v) = nI (yrk v) := by decide
set_option maxHeartbeats 4000000 in
set_option maxRecDepth 100000 in
theorem x_rank {l : Launch} {I : wr_TI} {L : wr_TL} {R : wr_TR} (v : Nat) (hv : v < 31) : wr_E l 0 mX8_rank [.int (nI v)] SH I L R (some (.int (nI (yrk v)))) I L R := by
  rw [← rkI_n v hv]
  generalize nI v = x
  refine wv_pad 0 ?_
  show wr_V l 0 mX8_rank 0 [some (.int x)] [] SH I L R 0 0 _
  refine wv_iload_n dX8_rank_0 rfl ?_
  refine wv_bipush (v := 27) dX8_rank_1 (by decide) ?_
  refine wv_icmp_ne (tgt := 11) dX8_rank_3 (by decide) (fun h3 => ?_) (fun h3 => ?_)
  · refine wv_iload_n dX8_rank_11 rfl ?_
    refine wv_bipush (v := 24) dX8_rank_12 (by decide) ?_
    refine wv_icmp_eq (tgt := 23) dX8_rank_14 (by decide) (fun h14 => ?_) (fun h14 => ?_)
    · refine wv_bipush (v := 23) dX8_rank_23 (by decide) ?_
      refine wv_goto (tgt := 29) dX8_rank_25 (by decide) ?_
      refine wv_iret rfl dX8_rank_29 ?_
      refine ⟨?_, rfl, rfl, rfl, rfl⟩
      unfold rkI
      simp_all
    · refine wv_iload_n dX8_rank_17 rfl ?_
      refine wv_bipush (v := 25) dX8_rank_18 (by decide) ?_
      refine wv_icmp_ne (tgt := 28) dX8_rank_20 (by decide) (fun h20 => ?_) (fun h20 => ?_)
      · refine wv_iload_n dX8_rank_28 rfl ?_
        refine wv_iret rfl dX8_rank_29 ?_
        refine ⟨?_, rfl, rfl, rfl, rfl⟩
        unfold rkI
        simp_all
      · refine wv_bipush (v := 23) dX8_rank_23 (by decide) ?_
        refine wv_goto (tgt := 29) dX8_rank_25 (by decide) ?_
        refine wv_iret rfl dX8_rank_29 ?_
        refine ⟨?_, rfl, rfl, rfl, rfl⟩
        unfold rkI
        simp_all
  · refine wv_bipush (v := 26) dX8_rank_6 (by decide) ?_
    refine wv_goto (tgt := 29) dX8_rank_8 (by decide) ?_
    refine wv_iret rfl dX8_rank_29 ?_
    refine ⟨?_, rfl, rfl, rfl, rfl⟩
    unfold rkI
    simp_all

def knI (T : TP) (k : TK) : Int32 := if isWd T k 14 = true then 1 else if isWd T k 15 = true then 2 else if isWd T k 5 = true then 3 else if isWd T k 16 = true then 4 else if isWd T k 17 = true then 5 else if isWd T k 18 = true then 6 else if isWd T k 19 = true then 7 else -1
set_option maxHeartbeats 4000000 in
set_option maxRecDepth 100000 in
theorem x_known {l : Launch} {I : wr_TI} {L : wr_TL} {R : wr_TR} (T : TP) (k : TK) (hk : mkV I L T k) (hG : tkG T k) : wr_E l 1 mX8_known [.ref 55] SH I L R (some (.int (knI T k))) I L R := by
  refine wv_pad 0 ?_
  show wr_V l 1 mX8_known 0 [some (.ref 55)] [] SH I L R 0 0 _
  refine wv_aload_n dX8_known_0 rfl ?_
  refine wv_ldc2_w nX8_241 dX8_known_1 ?_
  refine wv_v1e oX8_isWord kX8_203 dX8_known_4 (by omega) (by first | assumption | rfl) ⟨rfl, by decide⟩ (Nat.le_of_ble_eq_true rfl) (Nat.le_of_ble_eq_true rfl) (x_isWord T k hk hG 14 (by decide) _ (by decide +kernel)) ?_
  refine wv_if_eq (tgt := 14) dX8_known_7 (by decide) (fun h7 => ?_) (fun h7 => ?_)
  · refine wv_aload_n dX8_known_14 rfl ?_
    refine wv_ldc2_w nX8_243 dX8_known_15 ?_
    refine wv_v1e oX8_isWord kX8_203 dX8_known_18 (by omega) (by first | assumption | rfl) ⟨rfl, by decide⟩ (Nat.le_of_ble_eq_true rfl) (Nat.le_of_ble_eq_true rfl) (x_isWord T k hk hG 15 (by decide) _ (by decide +kernel)) ?_
    refine wv_if_eq (tgt := 28) dX8_known_21 (by decide) (fun h21 => ?_) (fun h21 => ?_)
    · refine wv_aload_n dX8_known_28 rfl ?_
      refine wv_ldc2_w nX8_245 dX8_known_29 ?_
      refine wv_v1e oX8_isWord kX8_203 dX8_known_32 (by omega) (by first | assumption | rfl) ⟨rfl, by decide⟩ (Nat.le_of_ble_eq_true rfl) (Nat.le_of_ble_eq_true rfl) (x_isWord T k hk hG 5 (by decide) _ (by decide +kernel)) ?_
      refine wv_if_eq (tgt := 42) dX8_known_35 (by decide) (fun h35 => ?_) (fun h35 => ?_)
      · refine wv_aload_n dX8_known_42 rfl ?_
        refine wv_ldc2_w nX8_247 dX8_known_43 ?_
        refine wv_v1e oX8_isWord kX8_203 dX8_known_46 (by omega) (by first | assumption | rfl) ⟨rfl, by decide⟩ (Nat.le_of_ble_eq_true rfl) (Nat.le_of_ble_eq_true rfl) (x_isWord T k hk hG 16 (by decide) _ (by decide +kernel)) ?_
        refine wv_if_eq (tgt := 56) dX8_known_49 (by decide) (fun h49 => ?_) (fun h49 => ?_)
        · refine wv_aload_n dX8_known_56 rfl ?_
          refine wv_ldc2_w nX8_249 dX8_known_57 ?_
          refine wv_v1e oX8_isWord kX8_203 dX8_known_60 (by omega) (by first | assumption | rfl) ⟨rfl, by decide⟩ (Nat.le_of_ble_eq_true rfl) (Nat.le_of_ble_eq_true rfl) (x_isWord T k hk hG 17 (by decide) _ (by decide +kernel)) ?_
          refine wv_if_eq (tgt := 70) dX8_known_63 (by decide) (fun h63 => ?_) (fun h63 => ?_)
          · refine wv_aload_n dX8_known_70 rfl ?_
            refine wv_ldc2_w nX8_251 dX8_known_71 ?_
            refine wv_v1e oX8_isWord kX8_203 dX8_known_74 (by omega) (by first | assumption | rfl) ⟨rfl, by decide⟩ (Nat.le_of_ble_eq_true rfl) (Nat.le_of_ble_eq_true rfl) (x_isWord T k hk hG 18 (by decide) _ (by decide +kernel)) ?_
            refine wv_if_eq (tgt := 85) dX8_known_77 (by decide) (fun h77 => ?_) (fun h77 => ?_)
            · refine wv_aload_n dX8_known_85 rfl ?_
              refine wv_ldc2_w nX8_253 dX8_known_86 ?_
              refine wv_v1e oX8_isWord kX8_203 dX8_known_89 (by omega) (by first | assumption | rfl) ⟨rfl, by decide⟩ (Nat.le_of_ble_eq_true rfl) (Nat.le_of_ble_eq_true rfl) (x_isWord T k hk hG 19 (by decide) _ (by decide +kernel)) ?_
              refine wv_if_eq (tgt := 100) dX8_known_92 (by decide) (fun h92 => ?_) (fun h92 => ?_)
              · refine wv_iconst (v := (-1)) dX8_known_100 (by decide) ?_
                refine wv_iret rfl dX8_known_101 ?_
                refine ⟨?_, rfl, rfl, rfl, rfl⟩
                unfold knI
                simp_all
              · refine wv_bipush (v := 7) dX8_known_95 (by decide) ?_
                refine wv_goto (tgt := 101) dX8_known_97 (by decide) ?_
                refine wv_iret rfl dX8_known_101 ?_
                refine ⟨?_, rfl, rfl, rfl, rfl⟩
                unfold knI
                simp_all
            · refine wv_bipush (v := 6) dX8_known_80 (by decide) ?_
              refine wv_goto (tgt := 101) dX8_known_82 (by decide) ?_
              refine wv_iret rfl dX8_known_101 ?_
              refine ⟨?_, rfl, rfl, rfl, rfl⟩
              unfold knI
              simp_all
          · refine wv_iconst (v := 5) dX8_known_66 (by decide) ?_
            refine wv_goto (tgt := 101) dX8_known_67 (by decide) ?_
            refine wv_iret rfl dX8_known_101 ?_
            refine ⟨?_, rfl, rfl, rfl, rfl⟩
            unfold knI
            simp_all
        · refine wv_iconst (v := 4) dX8_known_52 (by decide) ?_
          refine wv_goto (tgt := 101) dX8_known_53 (by decide) ?_
          refine wv_iret rfl dX8_known_101 ?_
          refine ⟨?_, rfl, rfl, rfl, rfl⟩
          unfold knI
          simp_all
      · refine wv_iconst (v := 3) dX8_known_38 (by decide) ?_
        refine wv_goto (tgt := 101) dX8_known_39 (by decide) ?_
        refine wv_iret rfl dX8_known_101 ?_
        refine ⟨?_, rfl, rfl, rfl, rfl⟩
        unfold knI
        simp_all
    · refine wv_iconst (v := 2) dX8_known_24 (by decide) ?_
      refine wv_goto (tgt := 101) dX8_known_25 (by decide) ?_
      refine wv_iret rfl dX8_known_101 ?_
      refine ⟨?_, rfl, rfl, rfl, rfl⟩
      unfold knI
      simp_all
  · refine wv_iconst (v := 1) dX8_known_10 (by decide) ?_
    refine wv_goto (tgt := 101) dX8_known_11 (by decide) ?_
    refine wv_iret rfl dX8_known_101 ?_
    refine ⟨?_, rfl, rfl, rfl, rfl⟩
    unfold knI
    simp_all

