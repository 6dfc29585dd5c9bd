/-! the model: sign -/
theorem mrd_e {I : wr_TI} {L : wr_TL} {T : TP} {k j : TK} (h : k = j) (m : mrd I L T k) : mrd I L T j := h ▸ m
def whI (T : TP) (k : TK) : Int32 := if ywh T k = 0 then -1 else nI (ywh T k)
set_option maxHeartbeats 4000000 in
set_option maxRecDepth 100000 in
theorem x_sign {l : Launch} {I : wr_TI} {L : wr_TL} {R : wr_TR} (hR : wr_RC R) (T : TP) (s : PS) (W : List Nat) (h : yM I L T s W) (hi : yiv s W 2) : wr_P l 3 mX8_sign [.ref 55] SH I L R (yQ I L R T (ysgn T s W)) := by
  obtain ⟨m1, h2, h3, h4, h5, h6', h7⟩ := id h
  have hb := (yiv_n hi m1.2.1).2 rfl
  have hyl := ynd_le W
  have h0 := m1.2.2.1
  have hG := m1.2.1
  obtain ⟨_, _, _, _, sS⟩ := srt m1.1 m1.2.1
  have s43 := sS 43 (by decide)
  have s45 := sS 45 (by decide)
  have s42 := sS 42 (by decide)
  have s61 := sS 61 (by decide)
  have s60 := sS 60 (by decide)
  have s62 := sS 62 (by decide)
  have s41 := sS 41 (by decide)
  have g163 : ¬ (isS T s.1 41 = true ∧ yop W = true) → wr_V l 3 mX8_sign 163 [some (.ref 55), some (.int (whI T s.1))] [] SH I L R 0 0 (yQ I L R T (ysgn T s W)) := by
    intro hcl
    unfold ysgn
    rw [if_neg hcl]
    by_cases hv0 : ywh T s.1 = 0
    · rw [if_pos hv0]
      have ew : whI T s.1 = -1 := if_pos hv0
      rw [ew]
      refine wv_iload_n dX8_sign_163 rfl ?_
      refine wv_if_ge (tgt := 174) dX8_sign_164 (by decide) (fun h164 => absurd h164 (by decide)) (fun h164 => ?_)
      refine wv_aload_n dX8_sign_167 rfl ?_
      refine wv_iconst (v := 2) dX8_sign_168 (by decide) ?_
      refine wv_v1 oX8_wrong kX8_207 dX8_sign_169 (by omega) (by first | assumption | rfl) ⟨rfl, by decide⟩ (Nat.le_of_ble_eq_true rfl) (Nat.le_of_ble_eq_true rfl) (x_wrong m1 2 (by decide)) (fun v9 s9 J9 L9 R9 h9 => ?_)
      obtain ⟨rfl, rfl, rfl, rfl, hm9, hf9⟩ := h9
      refine wv_iconst (v := 2) dX8_sign_172 (by decide) ?_
      refine wv_iret rfl dX8_sign_173 ?_
      exact ⟨rfl, rfl, frY_W hf9, ⟨_, rfl⟩, hm9⟩
    · rw [if_neg hv0]
      have ew : whI T s.1 = nI (ywh T s.1) := if_neg hv0
      rw [ew]
      obtain ⟨w1, w2, w3, w4⟩ := ywh_4 hv0
      have hk4 : ¬ s.1.1 = 4 := by omega
      have hrk : yrk (ywh T s.1) < 31 := by unfold yrk; split <;> (try split) <;> omega
      generalize hv : ywh T s.1 = v at *
      by_cases h23 : yrk v = 23
      · rw [if_pos h23]
        have hv2 : 23 ≤ v ∧ v ≤ 25 := by
          unfold yrk at h23
          split at h23
          · omega
          · split at h23 <;> omega
        obtain ⟨q1, q2, q3, q4⟩ := ystl_n (r := 26) W s (by omega)
        have hw7 : ∀ x, x ∈ (ystl 26 W s).2 → 20 ≤ x ∧ x ≤ 30 ∧ x ≠ 29 := fun x hx => hi.2.1 x (q4 x hx)
        have ht7 : ytp (ystl 26 W s).2 < 31 := by
          cases he : (ystl 26 W s).2 with
          | nil => simp [ytp]
          | cons a X => have := hw7 a (by rw [he]; exact List.mem_cons_self ..); show a < 31; omega
        refine wv_iload_n dX8_sign_163 rfl ?_
        refine wv_if_ge (tgt := 174) dX8_sign_164 (by decide) (fun h164 => ?_) (fun h164 => absurd (nI_pos' (by omega)) h164)
        refine wv_iload_n dX8_sign_174 rfl ?_
        refine wv_s1e oX8_rank kX8_277 dX8_sign_175 (by omega) (Nat.le_of_ble_eq_true rfl) (Nat.le_of_ble_eq_true rfl) (x_rank v (by omega)) ?_
        refine wv_bipush (v := 23) dX8_sign_178 (by decide) ?_
        refine wv_icmp_ne (tgt := 209) dX8_sign_180 (by decide) (fun h180 => absurd (show nI (yrk v) = 23 by rw [h23]; rfl) h180) (fun h180 => ?_)
        refine wv_aload_n dX8_sign_183 rfl ?_
        refine wv_bipush (v := nI 26) dX8_sign_184 rfl ?_
        refine wv_v1 oX8_settle kX8_274 dX8_sign_186 (by omega) (by first | assumption | rfl) ⟨rfl, by decide⟩ (Nat.le_of_ble_eq_true rfl) (Nat.le_of_ble_eq_true rfl) (x_settle (I := I) hR T 26 (by omega) W I s h hi.2.1 (by omega)) (fun v7 s7 J7 L7 R7 h7q => ?_)
        obtain ⟨rfl, rfl, rfl, rfl, hm7, hf7⟩ := h7q
        refine wv_aload_n dX8_sign_189 rfl ?_
        refine wv_v0e oX8_upper kX8_234 dX8_sign_190 (by omega) (by first | assumption | rfl) ⟨rfl, by decide⟩ (Nat.le_of_ble_eq_true rfl) (Nat.le_of_ble_eq_true rfl) (x_upper hR (ystl 26 W s).2 hm7.2.2.2.2.1 hm7.2.2.2.2.2.1 (by omega)) ?_
        refine wv_s1e oX8_rank kX8_277 dX8_sign_193 (by omega) (Nat.le_of_ble_eq_true rfl) (Nat.le_of_ble_eq_true rfl) (x_rank (ytp (ystl 26 W s).2) ht7) ?_
        refine wv_bipush (v := 23) dX8_sign_196 (by decide) ?_
        refine wv_icmp_ne (tgt := 217) dX8_sign_198 (by decide) (fun h198 => ?_) (fun h198 => ?_)
        · have n23 : ¬ yrk (ytp (ystl 26 W s).2) = 23 := fun z => h198 (by rw [z]; rfl)
          rw [if_neg n23]
          first
            | (have _ := e23
               refine wv_aload_n dX8_sign_217 rfl ?_
               refine wv_getI fX8_200 dX8_sign_218 rfl (by first | assumption | rfl) ?_
               refine wv_if_le (tgt := 226) dX8_sign_221 (by decide) (fun h221 => absurd h221 (by rw [hm9.1]; exact Int32.not_le.mpr hm9.2.2)) (fun h221 => ?_)
               refine wv_iconst (v := 2) dX8_sign_224 (by decide) ?_
               refine wv_iret rfl dX8_sign_225 ?_
               exact ⟨rfl, rfl, frY_tr hf7 (frY_W hf9), ⟨_, rfl⟩, hm9⟩)
            | (have _ := n23
               refine wv_aload_n dX8_sign_217 rfl ?_
               refine wv_getI fX8_200 dX8_sign_218 rfl (by first | assumption | rfl) ?_
               refine wv_if_le (tgt := 226) dX8_sign_221 (by decide) (fun h221 => ?_) (fun h221 => absurd (by rw [hm7.1.2.2.1]; exact Int32.le_refl _) h221)
               refine wv_aload_n dX8_sign_226 rfl ?_
               refine wv_iload_n dX8_sign_227 rfl ?_
               refine wv_v1 oX8_hold kX8_263 dX8_sign_228 (by omega) (by first | assumption | rfl) ⟨rfl, by decide⟩ (Nat.le_of_ble_eq_true rfl) (Nat.le_of_ble_eq_true rfl) (x_hold hR T _ _ v hm7 (by omega) (by omega)) (fun v9 s9 J9 L9 R9 h9 => ?_)
               obtain ⟨rfl, rfl, rfl, rfl, hm9, hf9⟩ := h9
               refine wv_aload_n dX8_sign_231 rfl ?_
               refine wv_v0 oX8_token kX8_210 dX8_sign_232 (by omega) (by first | assumption | rfl) ⟨rfl, by decide⟩ (Nat.le_of_ble_eq_true rfl) (Nat.le_of_ble_eq_true rfl) (x_tok hR hm9.1 (by rw [q2]; exact hk4)) (fun v8 s8 J8 L8 R8 h8 => ?_)
               obtain ⟨rfl, rfl, rfl, hm8, hf8⟩ := h8
               refine wv_iload_n dX8_sign_235 rfl ?_
               refine wv_bipush (v := 21) dX8_sign_236 (by decide) ?_
               refine wv_icmp_eq (tgt := 247) dX8_sign_238 (by decide) (fun h238 => absurd h238 (fun z => by have := (nI_eq (b := 21) (by omega) (by omega)).mp z; omega)) (fun h238 => ?_)
               refine wv_iload_n dX8_sign_241 rfl ?_
               refine wv_bipush (v := 20) dX8_sign_242 (by decide) ?_
               refine wv_icmp_ne (tgt := 251) dX8_sign_244 (by decide) (fun h244 => ?_) (fun h244 => absurd h244 (fun z => by have := (nI_eq (b := 20) (by omega) (by omega)).mp z; omega))
               refine wv_iconst (v := 1) dX8_sign_251 (by decide) ?_
               refine wv_iret rfl dX8_sign_252 ?_
               exact ⟨rfl, rfl, frY_tr hf7 (frY_tr hf9 (frY_W hf8)), rfl, yM_W hm9 hm8 hf8⟩)
        · have e23 : yrk (ytp (ystl 26 W s).2) = 23 := by
            have hlt : yrk (ytp (ystl 26 W s).2) < 31 := by unfold yrk; split <;> (try split) <;> omega
            exact (nI_eq (b := 23) (by omega) (by omega)).mp h198
          rw [if_pos e23]
          refine wv_aload_n dX8_sign_201 rfl ?_
          refine wv_iconst (v := 2) dX8_sign_202 (by decide) ?_
          refine wv_v1 oX8_wrong kX8_207 dX8_sign_203 (by omega) (by first | assumption | rfl) ⟨rfl, by decide⟩ (Nat.le_of_ble_eq_true rfl) (Nat.le_of_ble_eq_true rfl) (x_wrong (mrd_e q2 hm7.1) 2 (by decide)) (fun v9 s9 J9 L9 R9 h9 => ?_)
          obtain ⟨rfl, rfl, rfl, rfl, hm9, hf9⟩ := h9
          refine wv_goto (tgt := 217) dX8_sign_206 (by decide) ?_
          first
            | (have _ := e23
               refine wv_aload_n dX8_sign_217 rfl ?_
               refine wv_getI fX8_200 dX8_sign_218 rfl (by first | assumption | rfl) ?_
               refine wv_if_le (tgt := 226) dX8_sign_221 (by decide) (fun h221 => absurd h221 (by rw [hm9.1]; exact Int32.not_le.mpr hm9.2.2)) (fun h221 => ?_)
               refine wv_iconst (v := 2) dX8_sign_224 (by decide) ?_
               refine wv_iret rfl dX8_sign_225 ?_
               exact ⟨rfl, rfl, frY_tr hf7 (frY_W hf9), ⟨_, rfl⟩, hm9⟩)
            | (have _ := n23
               refine wv_aload_n dX8_sign_217 rfl ?_
               refine wv_getI fX8_200 dX8_sign_218 rfl (by first | assumption | rfl) ?_
               refine wv_if_le (tgt := 226) dX8_sign_221 (by decide) (fun h221 => ?_) (fun h221 => absurd (by rw [hm7.1.2.2.1]; exact Int32.le_refl _) h221)
               refine wv_aload_n dX8_sign_226 rfl ?_
               refine wv_iload_n dX8_sign_227 rfl ?_
               refine wv_v1 oX8_hold kX8_263 dX8_sign_228 (by omega) (by first | assumption | rfl) ⟨rfl, by decide⟩ (Nat.le_of_ble_eq_true rfl) (Nat.le_of_ble_eq_true rfl) (x_hold hR T _ _ v hm7 (by omega) (by omega)) (fun v9 s9 J9 L9 R9 h9 => ?_)
               obtain ⟨rfl, rfl, rfl, rfl, hm9, hf9⟩ := h9
               refine wv_aload_n dX8_sign_231 rfl ?_
               refine wv_v0 oX8_token kX8_210 dX8_sign_232 (by omega) (by first | assumption | rfl) ⟨rfl, by decide⟩ (Nat.le_of_ble_eq_true rfl) (Nat.le_of_ble_eq_true rfl) (x_tok hR hm9.1 (by rw [q2]; exact hk4)) (fun v8 s8 J8 L8 R8 h8 => ?_)
               obtain ⟨rfl, rfl, rfl, hm8, hf8⟩ := h8
               refine wv_iload_n dX8_sign_235 rfl ?_
               refine wv_bipush (v := 21) dX8_sign_236 (by decide) ?_
               refine wv_icmp_eq (tgt := 247) dX8_sign_238 (by decide) (fun h238 => absurd h238 (fun z => by have := (nI_eq (b := 21) (by omega) (by omega)).mp z; omega)) (fun h238 => ?_)
               refine wv_iload_n dX8_sign_241 rfl ?_
               refine wv_bipush (v := 20) dX8_sign_242 (by decide) ?_
               refine wv_icmp_ne (tgt := 251) dX8_sign_244 (by decide) (fun h244 => ?_) (fun h244 => absurd h244 (fun z => by have := (nI_eq (b := 20) (by omega) (by omega)).mp z; omega))
               refine wv_iconst (v := 1) dX8_sign_251 (by decide) ?_
               refine wv_iret rfl dX8_sign_252 ?_
               exact ⟨rfl, rfl, frY_tr hf7 (frY_tr hf9 (frY_W hf8)), rfl, yM_W hm9 hm8 hf8⟩)
      · rw [if_neg h23]
        obtain ⟨q1, q2, q3, q4⟩ := ystl_n (r := yrk v) W s (by omega)
        have hnw : ∀ x : Nat, x = (if v ≤ 21 then 0 else 1) → nI (if v ≤ 21 then 0 else 1) = nI x := fun x hx => by rw [hx]
        refine wv_iload_n dX8_sign_163 rfl ?_
        refine wv_if_ge (tgt := 174) dX8_sign_164 (by decide) (fun h164 => ?_) (fun h164 => absurd (nI_pos' (by omega)) h164)
        refine wv_iload_n dX8_sign_174 rfl ?_
        refine wv_s1e oX8_rank kX8_277 dX8_sign_175 (by omega) (Nat.le_of_ble_eq_true rfl) (Nat.le_of_ble_eq_true rfl) (x_rank v (by omega)) ?_
        refine wv_bipush (v := 23) dX8_sign_178 (by decide) ?_
        refine wv_icmp_ne (tgt := 209) dX8_sign_180 (by decide) (fun h180 => ?_) (fun h180 => absurd h180 (fun z => h23 ((nI_eq (b := 23) (by omega) (by omega)).mp z)))
        refine wv_aload_n dX8_sign_209 rfl ?_
        refine wv_iload_n dX8_sign_210 rfl ?_
        refine wv_s1e oX8_rank kX8_277 dX8_sign_211 (by omega) (Nat.le_of_ble_eq_true rfl) (Nat.le_of_ble_eq_true rfl) (x_rank v (by omega)) ?_
        refine wv_v1 oX8_settle kX8_274 dX8_sign_214 (by omega) (by first | assumption | rfl) ⟨rfl, by decide⟩ (Nat.le_of_ble_eq_true rfl) (Nat.le_of_ble_eq_true rfl) (x_settle (I := I) hR T (yrk v) (by omega) W I s h hi.2.1 (by omega)) (fun v7 s7 J7 L7 R7 h7q => ?_)
        obtain ⟨rfl, rfl, rfl, rfl, hm7, hf7⟩ := h7q
        refine wv_aload_n dX8_sign_217 rfl ?_
        refine wv_getI fX8_200 dX8_sign_218 rfl (by first | assumption | rfl) ?_
        refine wv_if_le (tgt := 226) dX8_sign_221 (by decide) (fun h221 => ?_) (fun h221 => absurd (by rw [hm7.1.2.2.1]; exact Int32.le_refl _) h221)
        refine wv_aload_n dX8_sign_226 rfl ?_
        refine wv_iload_n dX8_sign_227 rfl ?_
        refine wv_v1 oX8_hold kX8_263 dX8_sign_228 (by omega) (by first | assumption | rfl) ⟨rfl, by decide⟩ (Nat.le_of_ble_eq_true rfl) (Nat.le_of_ble_eq_true rfl) (x_hold hR T _ _ v hm7 (by omega) (by omega)) (fun v9 s9 J9 L9 R9 h9 => ?_)
        obtain ⟨rfl, rfl, rfl, rfl, hm9, hf9⟩ := h9
        refine wv_aload_n dX8_sign_231 rfl ?_
        refine wv_v0 oX8_token kX8_210 dX8_sign_232 (by omega) (by first | assumption | rfl) ⟨rfl, by decide⟩ (Nat.le_of_ble_eq_true rfl) (Nat.le_of_ble_eq_true rfl) (x_tok hR hm9.1 (by rw [q2]; exact hk4)) (fun v8 s8 J8 L8 R8 h8 => ?_)
        obtain ⟨rfl, rfl, rfl, hm8, hf8⟩ := h8
        refine wv_iload_n dX8_sign_235 rfl ?_
        refine wv_bipush (v := 21) dX8_sign_236 (by decide) ?_
        refine wv_icmp_eq (tgt := 247) dX8_sign_238 (by decide) (fun h238 => ?_) (fun h238 => ?_)
        · have e21 : v ≤ 21 := by have := (nI_eq (b := 21) (by omega) (by omega)).mp h238; omega
          refine wv_iconst (v := 0) dX8_sign_247 (by decide) ?_
          refine wv_goto (tgt := 252) dX8_sign_248 (by decide) ?_
          refine wv_iret rfl dX8_sign_252 ?_
          refine ⟨rfl, rfl, frY_tr hf7 (frY_tr hf9 (frY_W hf8)), ?_, yM_W hm9 hm8 hf8⟩
          show _ = some (Value.int (nI (if v ≤ 21 then 0 else 1)))
          first
            | (rw [if_pos e21]; rfl)
            | (rw [if_neg e21]; rfl)
        · have n21 : ¬ v = 21 := fun z => h238 (by rw [z]; rfl)
          refine wv_iload_n dX8_sign_241 rfl ?_
          refine wv_bipush (v := 20) dX8_sign_242 (by decide) ?_
          refine wv_icmp_ne (tgt := 251) dX8_sign_244 (by decide) (fun h244 => ?_) (fun h244 => ?_)
          · have e21 : ¬ v ≤ 21 := fun z => h244 (by rw [show v = 20 by omega]; rfl)
            refine wv_iconst (v := 1) dX8_sign_251 (by decide) ?_
            refine wv_iret rfl dX8_sign_252 ?_
            refine ⟨rfl, rfl, frY_tr hf7 (frY_tr hf9 (frY_W hf8)), ?_, yM_W hm9 hm8 hf8⟩
            show _ = some (Value.int (nI (if v ≤ 21 then 0 else 1)))
            first
              | (rw [if_pos e21]; rfl)
              | (rw [if_neg e21]; rfl)
          · have e21 : v ≤ 21 := by have := (nI_eq (b := 20) (by omega) (by omega)).mp h244; omega
            refine wv_iconst (v := 0) dX8_sign_247 (by decide) ?_
            refine wv_goto (tgt := 252) dX8_sign_248 (by decide) ?_
            refine wv_iret rfl dX8_sign_252 ?_
            refine ⟨rfl, rfl, frY_tr hf7 (frY_tr hf9 (frY_W hf8)), ?_, yM_W hm9 hm8 hf8⟩
            show _ = some (Value.int (nI (if v ≤ 21 then 0 else 1)))
            first
              | (rw [if_pos e21]; rfl)
              | (rw [if_neg e21]; rfl)
  have g115 : ∀ x, x = whI T s.1 → wr_V l 3 mX8_sign 115 [some (.ref 55), none] [.int x] SH I L R 0 0 (yQ I L R T (ysgn T s W)) := by
    intro x hx
    subst hx
    by_cases hcl : isS T s.1 41 = true ∧ yop W = true
    · obtain ⟨q1, q2, q3, q4⟩ := ystl_n (r := 0) W s (by omega)
      obtain ⟨W', hW'⟩ := ystl_o W s hcl.2
      have k3 := isS_3 hcl.1
      unfold ysgn
      rw [if_pos hcl]
      refine wv_istore_k (i := 1) dX8_sign_115 rfl (by decide) ?_
      refine wv_aload_n dX8_sign_116 rfl ?_
      refine wv_getI fX8_187 dX8_sign_117 rfl (by first | assumption | rfl) ?_
      refine wv_bipush (v := 41) dX8_sign_120 (by decide) ?_
      refine wv_icmp_ne (tgt := 163) dX8_sign_122 (by decide) (fun h122 => absurd (s41.mpr hcl.1) h122) (fun h122 => ?_)
      refine wv_aload_n dX8_sign_125 rfl ?_
      refine wv_v0e oX8_isOpen kX8_270 dX8_sign_126 (by omega) (by first | assumption | rfl) ⟨rfl, by decide⟩ (Nat.le_of_ble_eq_true rfl) (Nat.le_of_ble_eq_true rfl) (x_isOpen hR W h5 h6' (by omega) (fun x hx => (hi.2.1 x hx).2.1)) ?_
      refine wv_if_eq (tgt := 163) dX8_sign_129 (by decide) (fun h129 => absurd h129 (by rw [hcl.2]; decide)) (fun h129 => ?_)
      refine wv_aload_n dX8_sign_132 rfl ?_
      refine wv_iconst (v := nI 0) dX8_sign_133 rfl ?_
      refine wv_v1 oX8_settle kX8_274 dX8_sign_134 (by omega) (by first | assumption | rfl) ⟨rfl, by decide⟩ (Nat.le_of_ble_eq_true rfl) (Nat.le_of_ble_eq_true rfl) (x_settle (I := I) hR T 0 (by omega) W I s h hi.2.1 (by omega)) (fun v7 s7 J7 L7 R7 h7q => ?_)
      obtain ⟨rfl, rfl, rfl, rfl, hm7, hf7⟩ := h7q
      rw [hW'] at hm7
      have e47 : J7 55 47 = nI (W'.length + 1) := hm7.2.2.2.2.1
      have e48 : J7 55 48 = nI (ynd W' + 1) := by rw [hm7.2.2.2.2.2.2]; simp [ynd, Nat.add_comm]
      obtain ⟨hm9, hf9⟩ := yM_c hm7
      refine wv_aload_n dX8_sign_137 rfl ?_
      refine wv_dup dX8_sign_138 rfl ?_
      refine wv_getI fX8_224 dX8_sign_139 rfl (by first | assumption | rfl) ?_
      rw [e47]
      refine wv_iconst (v := 1) dX8_sign_142 (by decide) ?_
      refine wv_isub dX8_sign_143 ?_
      rw [nI_pred]
      refine wv_putI fX8_224 dX8_sign_144 rfl rfl rfl rfl (by first | assumption | rfl) ?_
      refine wv_aload_n dX8_sign_147 rfl ?_
      refine wv_dup dX8_sign_148 rfl ?_
      refine wv_getI fX8_227 dX8_sign_149 rfl (by first | assumption | rfl) ?_
      rw [show wr_uI J7 55 47 (nI W'.length) 55 48 = nI (ynd W' + 1) by simp [wr_uI, e48]]
      refine wv_iconst (v := 1) dX8_sign_152 (by decide) ?_
      refine wv_isub dX8_sign_153 ?_
      rw [nI_pred]
      refine wv_putI fX8_227 dX8_sign_154 rfl rfl rfl rfl (by first | assumption | rfl) ?_
      refine wv_aload_n dX8_sign_157 rfl ?_
      refine wv_v0 oX8_token kX8_210 dX8_sign_158 (by omega) (by first | assumption | rfl) ⟨rfl, by decide⟩ (Nat.le_of_ble_eq_true rfl) (Nat.le_of_ble_eq_true rfl) (x_tok hR hm9.1 (by rw [q2]; omega)) (fun v8 s8 J8 L8 R8 h8 => ?_)
      obtain ⟨rfl, rfl, rfl, hm8, hf8⟩ := h8
      refine wv_iconst (v := 2) dX8_sign_161 (by decide) ?_
      refine wv_iret rfl dX8_sign_162 ?_
      refine ⟨rfl, rfl, frY_tr hf7 (frY_tr hf9 (frY_W hf8)), rfl, ?_⟩
      rw [hW']
      exact yM_W hm9 hm8 hf8
    · have g := g163 hcl
      refine wv_istore_k (i := 1) dX8_sign_115 rfl (by decide) ?_
      refine wv_aload_n dX8_sign_116 rfl ?_
      refine wv_getI fX8_187 dX8_sign_117 rfl (by first | assumption | rfl) ?_
      refine wv_bipush (v := 41) dX8_sign_120 (by decide) ?_
      refine wv_icmp_ne (tgt := 163) dX8_sign_122 (by decide) (fun h122 => ?_) (fun h122 => ?_)
      · exact wv_le (by simp [wr_leq, wr_s1, wr_s2, wr_wide]) g
      · rw [s41] at h122
        refine wv_aload_n dX8_sign_125 rfl ?_
        refine wv_v0e oX8_isOpen kX8_270 dX8_sign_126 (by omega) (by first | assumption | rfl) ⟨rfl, by decide⟩ (Nat.le_of_ble_eq_true rfl) (Nat.le_of_ble_eq_true rfl) (x_isOpen hR W h5 h6' (by omega) (fun x hx => (hi.2.1 x hx).2.1)) ?_
        refine wv_if_eq (tgt := 163) dX8_sign_129 (by decide) (fun h129 => ?_) (fun h129 => absurd (by rw [show yop W = false from Bool.eq_false_iff.mpr (fun z => hcl ⟨h122, z⟩)]; rfl) h129)
        exact wv_le (by simp [wr_leq, wr_s1, wr_s2, wr_wide]) g
  refine wv_pad 1 ?_
  show wr_V l 3 mX8_sign 0 [some (.ref 55), none] [] SH I L R 0 0 _
  refine wv_aload_n dX8_sign_0 rfl ?_
  refine wv_getI fX8_187 dX8_sign_1 rfl (by first | assumption | rfl) ?_
  refine wv_bipush (v := 43) dX8_sign_4 (by decide) ?_
  refine wv_icmp_ne (tgt := 14) dX8_sign_6 (by decide) (fun h6 => ?_) (fun h6 => ?_)
  · rw [s43] at h6
    refine wv_aload_n dX8_sign_14 rfl ?_
    refine wv_getI fX8_187 dX8_sign_15 rfl (by first | assumption | rfl) ?_
    refine wv_bipush (v := 45) dX8_sign_18 (by decide) ?_
    refine wv_icmp_ne (tgt := 28) dX8_sign_20 (by decide) (fun h20 => ?_) (fun h20 => ?_)
    · rw [s45] at h20
      refine wv_aload_n dX8_sign_28 rfl ?_
      refine wv_getI fX8_187 dX8_sign_29 rfl (by first | assumption | rfl) ?_
      refine wv_bipush (v := 42) dX8_sign_32 (by decide) ?_
      refine wv_icmp_ne (tgt := 42) dX8_sign_34 (by decide) (fun h34 => ?_) (fun h34 => ?_)
      · rw [s42] at h34
        refine wv_aload_n dX8_sign_42 rfl ?_
        refine wv_getI fX8_187 dX8_sign_43 rfl (by first | assumption | rfl) ?_
        refine wv_bipush (v := 61) dX8_sign_46 (by decide) ?_
        refine wv_icmp_ne (tgt := 56) dX8_sign_48 (by decide) (fun h48 => ?_) (fun h48 => ?_)
        · rw [s61] at h48
          refine wv_aload_n dX8_sign_56 rfl ?_
          refine wv_getI fX8_187 dX8_sign_57 rfl (by first | assumption | rfl) ?_
          refine wv_bipush (v := 60) dX8_sign_60 (by decide) ?_
          refine wv_icmp_ne (tgt := 70) dX8_sign_62 (by decide) (fun h62 => ?_) (fun h62 => ?_)
          · rw [s60] at h62
            refine wv_aload_n dX8_sign_70 rfl ?_
            refine wv_getI fX8_187 dX8_sign_71 rfl (by first | assumption | rfl) ?_
            refine wv_bipush (v := 62) dX8_sign_74 (by decide) ?_
            refine wv_icmp_ne (tgt := 84) dX8_sign_76 (by decide) (fun h76 => ?_) (fun h76 => ?_)
            · rw [s62] at h76
              refine wv_aload_n dX8_sign_84 rfl ?_
              refine wv_ldc2_w nX8_266 dX8_sign_85 ?_
              refine wv_v1e oX8_isWord kX8_203 dX8_sign_88 (by omega) (by first | assumption | rfl) ⟨rfl, by decide⟩ (Nat.le_of_ble_eq_true rfl) (Nat.le_of_ble_eq_true rfl) (x_isWord T s.1 m1.1 m1.2.1 20 (by decide) _ (by decide +kernel)) ?_
              refine wv_if_eq (tgt := 99) dX8_sign_91 (by decide) (fun h91 => ?_) (fun h91 => ?_)
              · rw [if10] at h91
                refine wv_aload_n dX8_sign_99 rfl ?_
                refine wv_ldc2_w nX8_268 dX8_sign_100 ?_
                refine wv_v1e oX8_isWord kX8_203 dX8_sign_103 (by omega) (by first | assumption | rfl) ⟨rfl, by decide⟩ (Nat.le_of_ble_eq_true rfl) (Nat.le_of_ble_eq_true rfl) (x_isWord T s.1 m1.1 m1.2.1 21 (by decide) _ (by decide +kernel)) ?_
                refine wv_if_eq (tgt := 114) dX8_sign_106 (by decide) (fun h106 => ?_) (fun h106 => ?_)
                · rw [if10] at h106
                  refine wv_iconst (v := (-1)) dX8_sign_114 (by decide) ?_
                  exact wv_le (by simp [wr_leq, wr_s1, wr_s2, wr_wide]) (g115 _ (by unfold whI ywh; simp_all <;> rfl))
                · rw [if10, Decidable.not_not] at h106
                  refine wv_bipush (v := 20) dX8_sign_109 (by decide) ?_
                  refine wv_goto (tgt := 115) dX8_sign_111 (by decide) ?_
                  exact wv_le (by simp [wr_leq, wr_s1, wr_s2, wr_wide]) (g115 _ (by unfold whI ywh; simp_all <;> rfl))
              · rw [if10, Decidable.not_not] at h91
                refine wv_bipush (v := 21) dX8_sign_94 (by decide) ?_
                refine wv_goto (tgt := 115) dX8_sign_96 (by decide) ?_
                exact wv_le (by simp [wr_leq, wr_s1, wr_s2, wr_wide]) (g115 _ (by unfold whI ywh; simp_all <;> rfl))
            · rw [s62] at h76
              refine wv_bipush (v := 25) dX8_sign_79 (by decide) ?_
              refine wv_goto (tgt := 115) dX8_sign_81 (by decide) ?_
              exact wv_le (by simp [wr_leq, wr_s1, wr_s2, wr_wide]) (g115 _ (by unfold whI ywh; simp_all <;> rfl))
          · rw [s60] at h62
            refine wv_bipush (v := 24) dX8_sign_65 (by decide) ?_
            refine wv_goto (tgt := 115) dX8_sign_67 (by decide) ?_
            exact wv_le (by simp [wr_leq, wr_s1, wr_s2, wr_wide]) (g115 _ (by unfold whI ywh; simp_all <;> rfl))
        · rw [s61] at h48
          refine wv_bipush (v := 23) dX8_sign_51 (by decide) ?_
          refine wv_goto (tgt := 115) dX8_sign_53 (by decide) ?_
          exact wv_le (by simp [wr_leq, wr_s1, wr_s2, wr_wide]) (g115 _ (by unfold whI ywh; simp_all <;> rfl))
      · rw [s42] at h34
        refine wv_bipush (v := 28) dX8_sign_37 (by decide) ?_
        refine wv_goto (tgt := 115) dX8_sign_39 (by decide) ?_
        exact wv_le (by simp [wr_leq, wr_s1, wr_s2, wr_wide]) (g115 _ (by unfold whI ywh; simp_all <;> rfl))
    · rw [s45] at h20
      refine wv_bipush (v := 27) dX8_sign_23 (by decide) ?_
      refine wv_goto (tgt := 115) dX8_sign_25 (by decide) ?_
      exact wv_le (by simp [wr_leq, wr_s1, wr_s2, wr_wide]) (g115 _ (by unfold whI ywh; simp_all <;> rfl))
  · rw [s43] at h6
    refine wv_bipush (v := 26) dX8_sign_9 (by decide) ?_
    refine wv_goto (tgt := 115) dX8_sign_11 (by decide) ?_
    exact wv_le (by simp [wr_leq, wr_s1, wr_s2, wr_wide]) (g115 _ (by unfold whI ywh; simp_all <;> rfl))

