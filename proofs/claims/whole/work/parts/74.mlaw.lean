/-! the model: told; a law's loop -/
def tld (T : TP) (i : Nat) (a b : Int32) (k : TK) : (Int32 × TK) ⊕ (Int32 × Nat) :=
  if isWd T k i = true then (if tkN (tkS T k.2.2.1) a b = true then .inl ((tkS T k.2.2.1).2.2.2, tkS T (tkS T k.2.2.1).2.2.1) else .inr (tnF (tkS T k.2.2.1), (tkS T k.2.2.1).2.1)) else .inr (rfF k, k.2.1)
def tlQ (I : wr_TI) (L : wr_TL) (R : wr_TR) (T : TP) (r : (Int32 × TK) ⊕ (Int32 × Nat)) : wr_TQ := fun v s' I' L' R' => s' = SH ∧ R' = R ∧ frW I L I' L' ∧ match r with
  | .inl x => v = some (.int x.1) ∧ mrd I' L' T x.2
  | .inr e => (∃ x, v = some (.int x)) ∧ mfl I' e
set_option maxHeartbeats 4000000 in
set_option maxRecDepth 100000 in
theorem x_told9 {l : Launch} {I : wr_TI} {L : wr_TL} {R : wr_TR} (h : 0 < I 55 2) (x : Int64) (a b : Int32) : wr_E l 3 mX8_told [.ref 55, .long x, .int a, .int b] SH I L R (some (.int 0)) I L R := by
  refine wv_pad 0 ?_
  show wr_V l 3 mX8_told 0 [some (.ref 55), some (.long x), none, some (.int a), some (.int b)] [] SH I L R 0 0 _
  refine wv_aload_n dX8_told_0 rfl ?_
  refine wv_lload_n dX8_told_1 rfl ?_
  refine wv_v1u oX8_want kX8_213 dX8_told_2 (by omega) (by first | assumption | rfl) ⟨rfl, by decide⟩ (Nat.le_of_ble_eq_true rfl) (Nat.le_of_ble_eq_true rfl) (x_want9 h x) ?_
  refine wv_aload_n dX8_told_5 rfl ?_
  refine wv_iload_n dX8_told_6 rfl ?_
  refine wv_iload dX8_told_7 rfl ?_
  refine wv_v2e oX8_toldNumber kX8_217 dX8_told_9 (by omega) (by first | assumption | rfl) ⟨rfl, by decide⟩ (Nat.le_of_ble_eq_true rfl) (Nat.le_of_ble_eq_true rfl) (x_tnum9 h a b) ?_
  refine wv_iret rfl dX8_told_12 ?_
  exact ⟨rfl, rfl, rfl, rfl, rfl⟩

set_option maxHeartbeats 4000000 in
set_option maxRecDepth 100000 in
theorem x_told {l : Launch} {I : wr_TI} {L : wr_TL} {R : wr_TR} {T : TP} {k : TK} (hR : wr_RC R) (h : mrd I L T k) (i : Nat) (hi : i < 22) (x : Int64) (hx : x = lN (encW i)) (a b : Int32) : wr_P l 3 mX8_told [.ref 55, .long x, .int a, .int b] SH I L R (tlQ I L R T (tld T i a b k)) := by
  refine wv_pad 0 ?_
  show wr_V l 3 mX8_told 0 [some (.ref 55), some (.long x), none, some (.int a), some (.int b)] [] SH I L R 0 0 _
  refine wv_aload_n dX8_told_0 rfl ?_
  refine wv_lload_n dX8_told_1 rfl ?_
  refine wv_v1 oX8_want kX8_213 dX8_told_2 (by omega) (by first | assumption | rfl) ⟨rfl, by decide⟩ (Nat.le_of_ble_eq_true rfl) (Nat.le_of_ble_eq_true rfl) (x_want hR h i hi x hx) (fun v9 s9 J9 L9 R9 h9 => ?_)
  obtain ⟨rfl, rfl, rfl, hf9, hy9, hn9⟩ := h9
  by_cases hc : isWd T k i = true
  · have hm9 := hy9 hc
    refine wv_aload_n dX8_told_5 rfl ?_
    refine wv_iload_n dX8_told_6 rfl ?_
    refine wv_iload dX8_told_7 rfl ?_
    refine wv_v2 oX8_toldNumber kX8_217 dX8_told_9 (by omega) (by first | assumption | rfl) ⟨rfl, by decide⟩ (Nat.le_of_ble_eq_true rfl) (Nat.le_of_ble_eq_true rfl) (x_tnum hR hm9 a b) (fun v8 s8 J8 L8 R8 h8 => ?_)
    obtain ⟨rfl, rfl, hf8, hy8, hn8⟩ := h8
    by_cases hc2 : tkN (tkS T k.2.2.1) a b = true
    · obtain ⟨rfl, hm8⟩ := hy8 hc2
      refine wv_iret rfl dX8_told_12 ?_
      unfold tld
      rw [if_pos hc, if_pos hc2]
      exact ⟨rfl, rfl, frW_tr hf9 hf8, rfl, hm8⟩
    · obtain ⟨⟨x8, rfl⟩, hm8⟩ := hn8 hc2
      refine wv_iret rfl dX8_told_12 ?_
      unfold tld
      rw [if_pos hc, if_neg hc2]
      exact ⟨rfl, rfl, frW_tr hf9 hf8, ⟨_, rfl⟩, hm8⟩
    skip
  · have hm9 := hn9 hc
    refine wv_aload_n dX8_told_5 rfl ?_
    refine wv_iload_n dX8_told_6 rfl ?_
    refine wv_iload dX8_told_7 rfl ?_
    refine wv_v2e oX8_toldNumber kX8_217 dX8_told_9 (by omega) (by first | assumption | rfl) ⟨rfl, by decide⟩ (Nat.le_of_ble_eq_true rfl) (Nat.le_of_ble_eq_true rfl) (x_tnum9 (by rw [hm9.1]; exact hm9.2.2) a b) ?_
    refine wv_iret rfl dX8_told_12 ?_
    unfold tld
    rw [if_neg hc]
    exact ⟨rfl, rfl, hf9, ⟨_, rfl⟩, hm9⟩

set_option maxHeartbeats 4000000 in
set_option maxRecDepth 100000 in
theorem x_lawF {l : Launch} {R : wr_TR} (I : wr_TI) (L : wr_TL) (x : Int32) (h : 0 < I 55 2) (Q : wr_TQ) (hQ : Q none SH I L R) : wr_V l 4 mX8_readLaw 89 [some (.ref 55), some (.int x)] [] SH I L R 0 0 Q := by
  have n0 : ¬ I 55 2 = 0 := fun z => by rw [z] at h; exact absurd h (by decide)
  refine wv_aload_n dX8_readLaw_89 rfl ?_
  refine wv_getI fX8_200 dX8_readLaw_90 rfl (by first | assumption | rfl) ?_
  refine wv_if_ne (tgt := 138) dX8_readLaw_93 (by decide) (fun h93 => ?_) (fun h93 => absurd h93 n0)
  refine wv_aload_n dX8_readLaw_138 rfl ?_
  refine wv_getI fX8_200 dX8_readLaw_139 rfl (by first | assumption | rfl) ?_
  refine wv_if_ne (tgt := 150) dX8_readLaw_142 (by decide) (fun h142 => ?_) (fun h142 => absurd h142 n0)
  refine wv_ret (x := ()) rfl dX8_readLaw_150 ?_
  exact hQ

set_option maxHeartbeats 4000000 in
set_option maxRecDepth 100000 in
theorem x_lawE {l : Launch} {R : wr_TR} (hR : wr_RC R) (T : TP) (J : wr_TI) (K : wr_TL) (c : YS) (hM : yM J K T c.1 c.2.1) (hi : yiv c.1 c.2.1 c.2.2) (hf : yfin T c) : wr_V l 4 mX8_readLaw 89 [some (.ref 55), some (.int (nI c.2.2))] [] SH J K R 0 0 (fun v s' I' L' R' => v = none ∧ s' = SH ∧ R' = R ∧ frY J K I' L' ∧ tkQ c.1.1 ∧ c.1.2.1.2 + c.2.1.length ≤ 259 ∧ yM I' L' T (ystl 0 c.2.1 c.1).1 (ystl 0 c.2.1 c.1).2) := by
  have h0 := hM.1.2.2.1
  have hb := (yiv_n hi hM.1.2.1).1
  have s59 := (srt hM.1.1 hM.1.2.1).2.2.2.2 59 (by decide)
  rw [hf.1]
  refine wv_aload_n dX8_readLaw_89 rfl ?_
  refine wv_getI fX8_200 dX8_readLaw_90 rfl (by first | assumption | rfl) ?_
  refine wv_if_ne (tgt := 138) dX8_readLaw_93 (by decide) (fun h93 => absurd h0 h93) (fun h93 => ?_)
  refine wv_iload_n dX8_readLaw_96 rfl ?_
  refine wv_iconst (v := 2) dX8_readLaw_97 (by decide) ?_
  refine wv_icmp_ne (tgt := 117) dX8_readLaw_98 (by decide) (fun h98 => absurd (show nI 2 = 2 from rfl) h98) (fun h98 => ?_)
  refine wv_aload_n dX8_readLaw_101 rfl ?_
  refine wv_getI fX8_187 dX8_readLaw_102 rfl (by first | assumption | rfl) ?_
  refine wv_bipush (v := 59) dX8_readLaw_105 (by decide) ?_
  refine wv_icmp_ne (tgt := 117) dX8_readLaw_107 (by decide) (fun h107 => absurd (s59.mpr hf.2.1) h107) (fun h107 => ?_)
  refine wv_aload_n dX8_readLaw_110 rfl ?_
  refine wv_v0e oX8_isOpen kX8_270 dX8_readLaw_111 (by omega) (by first | assumption | rfl) ⟨rfl, by decide⟩ (Nat.le_of_ble_eq_true rfl) (Nat.le_of_ble_eq_true rfl) (x_isOpen hR c.2.1 hM.2.2.2.2.1 hM.2.2.2.2.2.1 (by omega) (fun x hx => (hi.2.1 x hx).2.1)) ?_
  refine wv_if_eq (tgt := 138) dX8_readLaw_114 (by decide) (fun h114 => ?_) (fun h114 => absurd (by rw [hf.2.2]; rfl) h114)
  refine wv_aload_n dX8_readLaw_138 rfl ?_
  refine wv_getI fX8_200 dX8_readLaw_139 rfl (by first | assumption | rfl) ?_
  refine wv_if_ne (tgt := 150) dX8_readLaw_142 (by decide) (fun h142 => absurd h0 h142) (fun h142 => ?_)
  refine wv_aload_n dX8_readLaw_145 rfl ?_
  refine wv_iconst (v := nI 0) dX8_readLaw_146 rfl ?_
  refine wv_v1 oX8_settle kX8_274 dX8_readLaw_147 (by omega) (by first | assumption | rfl) ⟨rfl, by decide⟩ (Nat.le_of_ble_eq_true rfl) (Nat.le_of_ble_eq_true rfl) (x_settle (I := J) hR T 0 (by omega) c.2.1 J c.1 hM hi.2.1 hb) (fun v7 s7 J7 L7 R7 h7q => ?_)
  obtain ⟨rfl, rfl, rfl, rfl, hm7, hf7⟩ := h7q
  refine wv_ret (x := ()) rfl dX8_readLaw_150 ?_
  exact ⟨rfl, rfl, rfl, hf7, hi.2.2.1, (yiv_n hi hM.1.2.1).2 hf.1, hm7⟩

set_option maxHeartbeats 4000000 in
set_option maxRecDepth 100000 in
/-- one turn of the loop -/
theorem x_law1 {l : Launch} {R : wr_TR} (hR : wr_RC R) (T : TP) (J : wr_TI) (K : wr_TL) (c : YS) (hM : yM J K T c.1 c.2.1) (hi : yiv c.1 c.2.1 c.2.2) (hn : c.2.2 ≤ 2) (hnf : ¬ yfin T c) (Q : wr_TQ) (hQ : ∀ v I' L', yQ J K R T (yst T c) (some (.int v)) SH I' L' R → wr_V l 4 mX8_readLaw 89 [some (.ref 55), some (.int v)] [] SH I' L' R 0 0 Q) : wr_V l 4 mX8_readLaw 89 [some (.ref 55), some (.int (nI c.2.2))] [] SH J K R 0 0 Q := by
  have h0 := hM.1.2.2.1
  have hb := (yiv_n hi hM.1.2.1).1
  have s59 := (srt hM.1.1 hM.1.2.1).2.2.2.2 59 (by decide)
  have fin : ∀ (r : YR) (v9 : Option Value) (s9 : List wr_S) (J9 : wr_TI) (L9 : wr_TL) (R9 : wr_TR), yst T c = r → yQ J K R T r v9 s9 J9 L9 R9 → ∃ x, v9 = some (.int x) ∧ s9 = SH ∧ R9 = R ∧ yQ J K R T (yst T c) (some (.int x)) SH J9 L9 R := by
    intro r v9 s9 J9 L9 R9 hr h9
    rw [hr]
    cases r with
    | inl d => obtain ⟨rfl, rfl, q1, rfl, q2⟩ := h9; exact ⟨_, rfl, rfl, rfl, rfl, rfl, q1, rfl, q2⟩
    | inr e => obtain ⟨rfl, rfl, q1, ⟨x, rfl⟩, q2⟩ := h9; exact ⟨_, rfl, rfl, rfl, rfl, rfl, q1, ⟨_, rfl⟩, q2⟩
  by_cases h2 : c.2.2 = 2
  · have hst : yst T c = ysgn T c.1 c.2.1 := by unfold yst; rw [if_neg hnf, if_pos h2]
    have e2 : nI c.2.2 = 2 := by rw [h2]; rfl
    rw [h2] at hi
    have g117 : wr_V l 4 mX8_readLaw 117 [some (.ref 55), some (.int (nI c.2.2))] [] SH J K R 0 0 Q := by
      refine wv_iload_n dX8_readLaw_117 rfl ?_
      refine wv_iconst (v := 2) dX8_readLaw_118 (by decide) ?_
      refine wv_icmp_ne (tgt := 129) dX8_readLaw_119 (by decide) (fun h119 => absurd e2 h119) (fun h119 => ?_)
      refine wv_aload_n dX8_readLaw_122 rfl ?_
      refine wv_v0 oX8_sign kX8_310 dX8_readLaw_123 (by omega) (by first | assumption | rfl) ⟨rfl, by decide⟩ (Nat.le_of_ble_eq_true rfl) (Nat.le_of_ble_eq_true rfl) (x_sign hR T c.1 c.2.1 hM hi) (fun v9 s9 J9 L9 R9 h9 => ?_)
      obtain ⟨x9, rfl, rfl, rfl, h9⟩ := fin _ _ _ _ _ _ hst h9
      refine wv_goto (tgt := 134) dX8_readLaw_126 (by decide) ?_
      refine wv_istore_k (i := 1) dX8_readLaw_134 rfl (by decide) ?_
      refine wv_goto (tgt := 89) dX8_readLaw_135 (by decide) ?_
      exact wv_le (by simp [wr_leq, wr_s1, wr_s2, wr_wide]) (hQ _ _ _ h9)
    refine wv_aload_n dX8_readLaw_89 rfl ?_
    refine wv_getI fX8_200 dX8_readLaw_90 rfl (by first | assumption | rfl) ?_
    refine wv_if_ne (tgt := 138) dX8_readLaw_93 (by decide) (fun h93 => absurd h0 h93) (fun h93 => ?_)
    refine wv_iload_n dX8_readLaw_96 rfl ?_
    refine wv_iconst (v := 2) dX8_readLaw_97 (by decide) ?_
    refine wv_icmp_ne (tgt := 117) dX8_readLaw_98 (by decide) (fun h98 => absurd e2 h98) (fun h98 => ?_)
    refine wv_aload_n dX8_readLaw_101 rfl ?_
    refine wv_getI fX8_187 dX8_readLaw_102 rfl (by first | assumption | rfl) ?_
    refine wv_bipush (v := 59) dX8_readLaw_105 (by decide) ?_
    refine wv_icmp_ne (tgt := 117) dX8_readLaw_107 (by decide) (fun h107 => ?_) (fun h107 => ?_)
    · exact wv_le (by simp [wr_leq, wr_s1, wr_s2, wr_wide]) g117
    · rw [s59] at h107
      refine wv_aload_n dX8_readLaw_110 rfl ?_
      refine wv_v0e oX8_isOpen kX8_270 dX8_readLaw_111 (by omega) (by first | assumption | rfl) ⟨rfl, by decide⟩ (Nat.le_of_ble_eq_true rfl) (Nat.le_of_ble_eq_true rfl) (x_isOpen hR c.2.1 hM.2.2.2.2.1 hM.2.2.2.2.2.1 (by omega) (fun x hx => (hi.2.1 x hx).2.1)) ?_
      refine wv_if_eq (tgt := 138) dX8_readLaw_114 (by decide) (fun h114 => absurd h114 (fun z => hnf ⟨h2, h107, bI_0.mp z⟩)) (fun h114 => ?_)
      exact wv_le (by simp [wr_leq, wr_s1, wr_s2, wr_wide]) g117
  · have hst : yst T c = yopd T c.1 c.2.1 c.2.2 := by unfold yst; rw [if_neg hnf, if_neg h2]
    have e2 : ¬ nI c.2.2 = 2 := fun z => h2 ((nI_eq (b := 2) (by omega) (by omega)).mp z)
    refine wv_aload_n dX8_readLaw_89 rfl ?_
    refine wv_getI fX8_200 dX8_readLaw_90 rfl (by first | assumption | rfl) ?_
    refine wv_if_ne (tgt := 138) dX8_readLaw_93 (by decide) (fun h93 => absurd h0 h93) (fun h93 => ?_)
    refine wv_iload_n dX8_readLaw_96 rfl ?_
    refine wv_iconst (v := 2) dX8_readLaw_97 (by decide) ?_
    refine wv_icmp_ne (tgt := 117) dX8_readLaw_98 (by decide) (fun h98 => ?_) (fun h98 => absurd h98 e2)
    refine wv_iload_n dX8_readLaw_117 rfl ?_
    refine wv_iconst (v := 2) dX8_readLaw_118 (by decide) ?_
    refine wv_icmp_ne (tgt := 129) dX8_readLaw_119 (by decide) (fun h119 => ?_) (fun h119 => absurd h119 e2)
    refine wv_aload_n dX8_readLaw_129 rfl ?_
    refine wv_iload_n dX8_readLaw_130 rfl ?_
    refine wv_v1 oX8_operand kX8_313 dX8_readLaw_131 (by omega) (by first | assumption | rfl) ⟨rfl, by decide⟩ (Nat.le_of_ble_eq_true rfl) (Nat.le_of_ble_eq_true rfl) (x_operand hR T c.1 c.2.1 c.2.2 hM hi (by omega)) (fun v9 s9 J9 L9 R9 h9 => ?_)
    obtain ⟨x9, rfl, rfl, rfl, h9⟩ := fin _ _ _ _ _ _ hst h9
    refine wv_istore_k (i := 1) dX8_readLaw_134 rfl (by decide) ?_
    refine wv_goto (tgt := 89) dX8_readLaw_135 (by decide) ?_
    exact wv_le (by simp [wr_leq, wr_s1, wr_s2, wr_wide]) (hQ _ _ _ h9)

theorem yopd_now {T : TP} {s : PS} {W : List Nat} {now : Nat} {c : YS} (h : yopd T s W now = .inl c) : c.2.2 ≤ 2 := by
  unfold yopd at h
  split at h
  · split at h
    · cases h
    · cases h; exact Nat.zero_le _
  · split at h
    · cases h
    · split at h
      · split at h
        · cases h
        · cases h; exact Nat.zero_le _
      · split at h
        · cases h
        · cases h; exact Nat.le_refl _
theorem ysgn_now {T : TP} {s : PS} {W : List Nat} {c : YS} (h : ysgn T s W = .inl c) : c.2.2 ≤ 2 := by
  unfold ysgn at h
  split at h
  · cases h; exact Nat.le_refl _
  · split at h
    · cases h
    · split at h
      · split at h
        · cases h
        · cases h; show 1 ≤ 2; omega
      · cases h
        show (if ywh T s.1 ≤ 21 then 0 else 1) ≤ 2
        split <;> omega
theorem yst_iv {T : TP} {c d : YS} (hT : T.1 ≤ 800) (hG : tkG T c.1.1) (h : yiv c.1 c.2.1 c.2.2) (hn : c.2.2 ≤ 2) (hnf : ¬ yfin T c) (he : yst T c = .inl d) : yiv d.1 d.2.1 d.2.2 ∧ d.2.2 ≤ 2 := by
  unfold yst at he
  rw [if_neg hnf] at he
  by_cases h2 : c.2.2 = 2
  · rw [if_pos h2] at he
    rw [h2] at h
    exact ⟨yiv_s hT hG h he, ysgn_now he⟩
  · rw [if_neg h2] at he
    exact ⟨yiv_o hT hG h2 h he, yopd_now he⟩
theorem yrun_fin {T : TP} {c : YS} (h : yfin T c) : ∀ n, yrun T n c = .inl c := by
  intro n
  induction n with
  | zero => rfl
  | succ n ih =>
    have e : yst T c = .inl c := by unfold yst; rw [if_pos h]
    simp only [yrun, e]
    exact ih
/-- the loop -/
theorem x_lawL {l : Launch} {R : wr_TR} (hR : wr_RC R) (T : TP) : ∀ (n : Nat) (J : wr_TI) (K : wr_TL) (b : YS), yM J K T b.1 b.2.1 → yiv b.1 b.2.1 b.2.2 → b.2.2 ≤ 2 →
    (∀ e, yrun T n b = .inr e → wr_V l 4 mX8_readLaw 89 [some (.ref 55), some (.int (nI b.2.2))] [] SH J K R 0 0 (fun v s' I' L' R' => v = none ∧ s' = SH ∧ R' = R ∧ frY J K I' L' ∧ mfl I' e)) ∧ ∀ c, yrun T n b = .inl c → yfin T c → wr_V l 4 mX8_readLaw 89 [some (.ref 55), some (.int (nI b.2.2))] [] SH J K R 0 0 (fun v s' I' L' R' => v = none ∧ s' = SH ∧ R' = R ∧ frY J K I' L' ∧ tkQ c.1.1 ∧ c.1.2.1.2 + c.2.1.length ≤ 259 ∧ yM I' L' T (ystl 0 c.2.1 c.1).1 (ystl 0 c.2.1 c.1).2) := by
  intro n
  induction n with
  | zero =>
    intro J K b hM hi hn
    refine ⟨fun e z => (by cases z), fun c z hf => ?_⟩
    cases z
    exact x_lawE hR T J K _ hM hi hf
  | succ n ih =>
    intro J K b hM hi hn
    by_cases hf : yfin T b
    · rw [yrun_fin hf]
      refine ⟨fun e z => (by cases z), fun c z _ => ?_⟩
      cases z
      exact x_lawE hR T J K _ hM hi hf
    · cases hs : yst T b with
      | inr e0 =>
        simp only [yrun, hs]
        refine ⟨fun e z => ?_, fun c z => (by cases z)⟩
        cases z
        refine x_law1 hR T J K b hM hi hn hf _ (fun v I' L' hq => ?_)
        rw [hs] at hq
        obtain ⟨-, -, q3, -, q5⟩ := hq
        exact x_lawF I' L' v (by rw [q5.1]; exact q5.2.2) _ ⟨rfl, rfl, rfl, q3, q5⟩
      | inl d =>
        simp only [yrun, hs]
        obtain ⟨v1, v2⟩ := yst_iv hM.1.2.2.2.2.2.1 hM.1.2.1 hi hn hf hs
        refine ⟨fun e z => ?_, fun c z hc => ?_⟩
        · refine x_law1 hR T J K b hM hi hn hf _ (fun v I' L' hq => ?_)
          rw [hs] at hq
          obtain ⟨-, -, q3, q4, q5⟩ := hq
          cases q4
          refine wr_V.imp ((ih I' L' d q5 v1 v2).1 e z) (fun v s' I2 L2 R2 h => ?_)
          obtain ⟨r1, r2, r3, r4, r5⟩ := h
          exact ⟨r1, r2, r3, frY_tr q3 r4, r5⟩
        · refine x_law1 hR T J K b hM hi hn hf _ (fun v I' L' hq => ?_)
          rw [hs] at hq
          obtain ⟨-, -, q3, q4, q5⟩ := hq
          cases q4
          refine wr_V.imp ((ih I' L' d q5 v1 v2).2 c z hc) (fun v s' I2 L2 R2 h => ?_)
          obtain ⟨r1, r2, r3, r4, r5⟩ := h
          exact ⟨r1, r2, r3, frY_tr q3 r4, r5⟩
