/-! the law: a case each, the loop -/
theorem lcmp_rf (x : Int64) : lg_cmp x x = 0 := by simp [lg_cmp]
theorem nI_m6 {n : Nat} (hn : n ≤ 3072) : (nI n - 6).toInt = (n : Int) - 6 := by
  rw [Int32.toInt_sub, nI_toInt (by omega), show (6 : Int32).toInt = 6 by decide]
  rw [Int.bmod_eq_of_le] <;> omega
abbrev mL_law : wr_M := (yL_law, cL_law, 4, some .boolean)
set_option maxHeartbeats 4000000 in
set_option maxRecDepth 100000 in
theorem lz_feed {l : Launch} {R : wr_TR} (i n : Nat) (I : wr_TI) (L : wr_TL) (hn : n ≤ 3072) (hI : I 1000300 0 = nI n) (hi : i + 6 ≤ n) (hW : zW i I L R) (Q : wr_TQ) (hc : ∀ J K R', zW (i + 6) J K R' → wr_V l 65 mL_law 1009 [some (.ref 1000300), some (.ref 0), some (.ref 55), some (.int (nI i))] [] SH J K R' 0 0 Q) : wr_V l 65 mL_law 168 [some (.ref 1000300), some (.ref 0), some (.ref 55), some (.int (nI i))] [] SH I L R 0 0 Q := by
  obtain ⟨t, T, fa, g, u, F, m, tm, hb, B, hK, hM, hP⟩ := hW
  have ok : gOK g := rgV_ok hK.2.2.2.2.1
  refine wv_aload_n dL_law_168 rfl ?_
  refine wv_aload_n dL_law_169 rfl ?_
  refine wv_iload_n dL_law_170 rfl ?_
  refine wv_iconst (v := 1) dL_law_171 (by decide) ?_
  refine wv_iadd dL_law_172 ?_
  rw [show nI i + 1 = nI (i + 1) from nI_add i 1]
  refine wv_sld (i := (i + 1)) hn hI (by omega) dL_law_173 ?_
  refine wv_aload_n dL_law_174 rfl ?_
  refine wv_iload_n dL_law_175 rfl ?_
  refine wv_iconst (v := 2) dL_law_176 (by decide) ?_
  refine wv_iadd dL_law_177 ?_
  rw [show nI i + 2 = nI (i + 2) from nI_add i 2]
  refine wv_sld (i := (i + 2)) hn hI (by omega) dL_law_178 ?_
  refine wv_aload_n dL_law_179 rfl ?_
  refine wv_iload_n dL_law_180 rfl ?_
  refine wv_iconst (v := 3) dL_law_181 (by decide) ?_
  refine wv_iadd dL_law_182 ?_
  rw [show nI i + 3 = nI (i + 3) from nI_add i 3]
  refine wv_sld (i := (i + 3)) hn hI (by omega) dL_law_183 ?_
  refine wv_aload_n dL_law_184 rfl ?_
  refine wv_iload_n dL_law_185 rfl ?_
  refine wv_iconst (v := 4) dL_law_186 (by decide) ?_
  refine wv_iadd dL_law_187 ?_
  rw [show nI i + 4 = nI (i + 4) from nI_add i 4]
  refine wv_sld (i := (i + 4)) hn hI (by omega) dL_law_188 ?_
  refine wv_aload_n dL_law_189 rfl ?_
  refine wv_iload_n dL_law_190 rfl ?_
  refine wv_iconst (v := 5) dL_law_191 (by decide) ?_
  refine wv_iadd dL_law_192 ?_
  rw [show nI i + 5 = nI (i + 5) from nI_add i 5]
  refine wv_sld (i := (i + 5)) hn hI (by omega) dL_law_193 ?_
  refine wv_v5 oX7_feed kL_13 dL_law_194 (by omega) (by first | assumption | rfl) ⟨rfl, by decide⟩ (Nat.le_of_ble_eq_true rfl) (Nat.le_of_ble_eq_true rfl) (zc_feed hK _ _ _ _ _) (fun v9 s9 J9 L9 R9 h9 => ?_)
  obtain ⟨rfl, rfl, hi9, hl9, t9, hK9⟩ := h9
  have hs9 : J9 1000300 = I 1000300 := hi9 _ (by omega)
  have hI : J9 1000300 0 = nI n := by rw [hs9]; exact hI
  have hM9 := zM_c hM hi9 hl9
  refine wv_aload_n dL_law_197 rfl ?_
  refine wv_aload_n dL_law_198 rfl ?_
  refine wv_iload_n dL_law_199 rfl ?_
  refine wv_iconst (v := 1) dL_law_200 (by decide) ?_
  refine wv_iadd dL_law_201 ?_
  rw [show nI i + 1 = nI (i + 1) from nI_add i 1]
  refine wv_sld (i := (i + 1)) hn hI (by omega) dL_law_202 ?_
  refine wv_aload_n dL_law_203 rfl ?_
  refine wv_iload_n dL_law_204 rfl ?_
  refine wv_iconst (v := 2) dL_law_205 (by decide) ?_
  refine wv_iadd dL_law_206 ?_
  rw [show nI i + 2 = nI (i + 2) from nI_add i 2]
  refine wv_sld (i := (i + 2)) hn hI (by omega) dL_law_207 ?_
  refine wv_aload_n dL_law_208 rfl ?_
  refine wv_iload_n dL_law_209 rfl ?_
  refine wv_iconst (v := 3) dL_law_210 (by decide) ?_
  refine wv_iadd dL_law_211 ?_
  rw [show nI i + 3 = nI (i + 3) from nI_add i 3]
  refine wv_sld (i := (i + 3)) hn hI (by omega) dL_law_212 ?_
  refine wv_aload_n dL_law_213 rfl ?_
  refine wv_iload_n dL_law_214 rfl ?_
  refine wv_iconst (v := 4) dL_law_215 (by decide) ?_
  refine wv_iadd dL_law_216 ?_
  rw [show nI i + 4 = nI (i + 4) from nI_add i 4]
  refine wv_sld (i := (i + 4)) hn hI (by omega) dL_law_217 ?_
  refine wv_aload_n dL_law_218 rfl ?_
  refine wv_iload_n dL_law_219 rfl ?_
  refine wv_iconst (v := 5) dL_law_220 (by decide) ?_
  refine wv_iadd dL_law_221 ?_
  rw [show nI i + 5 = nI (i + 5) from nI_add i 5]
  refine wv_sld (i := (i + 5)) hn hI (by omega) dL_law_222 ?_
  rw [hs9]
  refine wv_v5 oX8_feed kL_17 dL_law_223 (by omega) (by first | assumption | rfl) ⟨rfl, by decide⟩ (Nat.le_of_ble_eq_true rfl) (Nat.le_of_ble_eq_true rfl) (zm_feed hK9.1 ok hM9 _ _ _ _ _) (fun v8 s8 J8 L8 R8 h8 => ?_)
  obtain ⟨rfl, rfl, rfl, hi8, hl8, hM8⟩ := h8
  refine wv_icmp_eq (tgt := 1009) dL_law_226 (by decide) (fun h226 => ?_) (fun h226 => absurd rfl h226)
  exact hc J8 L8 _ ⟨t9, _, _, _, _, _, _, _, _, _, zK_m hK9 hi8 hl8, hM8, (zP_mo (zp_feed hP _ _ _ _ _) (by omega))⟩

set_option maxHeartbeats 4000000 in
set_option maxRecDepth 100000 in
theorem lz_end {l : Launch} {R : wr_TR} (i n : Nat) (I : wr_TI) (L : wr_TL) (hn : n ≤ 3072) (hI : I 1000300 0 = nI n) (hi : i + 6 ≤ n) (hW : zW i I L R) (Q : wr_TQ) (hc : ∀ J K R', zW (i + 6) J K R' → wr_V l 65 mL_law 1009 [some (.ref 1000300), some (.ref 0), some (.ref 55), some (.int (nI i))] [] SH J K R' 0 0 Q) : wr_V l 65 mL_law 231 [some (.ref 1000300), some (.ref 0), some (.ref 55), some (.int (nI i))] [] SH I L R 0 0 Q := by
  obtain ⟨t, T, fa, g, u, F, m, tm, hb, B, hK, hM, hP⟩ := hW
  have ok : gOK g := rgV_ok hK.2.2.2.2.1
  refine wv_aload_n dL_law_231 rfl ?_
  refine wv_aload_n dL_law_232 rfl ?_
  refine wv_iload_n dL_law_233 rfl ?_
  refine wv_iconst (v := 1) dL_law_234 (by decide) ?_
  refine wv_iadd dL_law_235 ?_
  rw [show nI i + 1 = nI (i + 1) from nI_add i 1]
  refine wv_sld (i := (i + 1)) hn hI (by omega) dL_law_236 ?_
  refine wv_v1 oX7_end kL_18 dL_law_237 (by omega) (by first | assumption | rfl) ⟨rfl, by decide⟩ (Nat.le_of_ble_eq_true rfl) (Nat.le_of_ble_eq_true rfl) (zc_end hK _) (fun v9 s9 J9 L9 R9 h9 => ?_)
  obtain ⟨rfl, rfl, hi9, hl9, t9, hK9⟩ := h9
  have hs9 : J9 1000300 = I 1000300 := hi9 _ (by omega)
  have hI : J9 1000300 0 = nI n := by rw [hs9]; exact hI
  have hM9 := zM_c hM hi9 hl9
  refine wv_aload_n dL_law_240 rfl ?_
  refine wv_aload_n dL_law_241 rfl ?_
  refine wv_iload_n dL_law_242 rfl ?_
  refine wv_iconst (v := 1) dL_law_243 (by decide) ?_
  refine wv_iadd dL_law_244 ?_
  rw [show nI i + 1 = nI (i + 1) from nI_add i 1]
  refine wv_sld (i := (i + 1)) hn hI (by omega) dL_law_245 ?_
  rw [hs9]
  refine wv_v1 oX8_end kL_22 dL_law_246 (by omega) (by first | assumption | rfl) ⟨rfl, by decide⟩ (Nat.le_of_ble_eq_true rfl) (Nat.le_of_ble_eq_true rfl) (zm_end hK9.1 ok hM9 _) (fun v8 s8 J8 L8 R8 h8 => ?_)
  obtain ⟨rfl, rfl, rfl, hi8, hl8, hM8⟩ := h8
  refine wv_icmp_eq (tgt := 1009) dL_law_249 (by decide) (fun h249 => ?_) (fun h249 => absurd rfl h249)
  exact hc J8 L8 _ ⟨t9, _, _, _, _, _, _, _, _, _, zK_m hK9 hi8 hl8, hM8, (zP_mo (zp_end hK.2.2.1.2.1 hP _) (by omega))⟩

theorem zW_mo {n k : Nat} {I : wr_TI} {L : wr_TL} {R : wr_TR} (h : zW n I L R) (hk : n ≤ k) : zW k I L R := by
  obtain ⟨t, T, fa, g, u, F, m, tm, hb, B, h1, h2, h3⟩ := h
  exact ⟨t, T, fa, g, u, F, m, tm, hb, B, h1, h2, zP_mo h3 hk⟩
set_option maxHeartbeats 4000000 in
set_option maxRecDepth 100000 in
theorem lz_ring {l : Launch} {R : wr_TR} (i n : Nat) (I : wr_TI) (L : wr_TL) (hn : n ≤ 3072) (hI : I 1000300 0 = nI n) (hi : i + 6 ≤ n) (hW : zW i I L R) (Q : wr_TQ) (hc : ∀ J K R', zW (i + 6) J K R' → wr_V l 65 mL_law 1009 [some (.ref 1000300), some (.ref 0), some (.ref 55), some (.int (nI i))] [] SH J K R' 0 0 Q) : wr_V l 65 mL_law 254 [some (.ref 1000300), some (.ref 0), some (.ref 55), some (.int (nI i))] [] SH I L R 0 0 Q := by
  obtain ⟨t, T, fa, g, u, F, m, tm, hb, B, hK, hM, hP⟩ := hW
  have hRC := hK.1
  obtain ⟨u0, htu, hto, hsp⟩ : ∃ u0, ((t = 3 ∧ u0 = 10) ∨ (t = 10 ∧ u0 = 3)) ∧ R 0 1 = t + 1 ∧ R 0 2 = u0 + 1 := by
    rcases hK.2.1 with ⟨rfl, h1, h2⟩ | ⟨rfl, h1, h2⟩
    · exact ⟨10, Or.inl ⟨rfl, rfl⟩, h1, h2⟩
    · exact ⟨3, Or.inr ⟨rfl, rfl⟩, h1, h2⟩
  obtain ⟨N, hN⟩ : ∃ N, N = 801 := ⟨801, rfl⟩
  obtain ⟨r, hr⟩ : ∃ r, lText T N (x0 T (gI I u0)) = r := ⟨_, rfl⟩
  refine wv_aload_n dL_law_254 rfl ?_
  refine wv_v0 oX7_ring kL_23 dL_law_255 (by omega) (by first | assumption | rfl) ⟨rfl, by decide⟩ (Nat.le_of_ble_eq_true rfl) (Nat.le_of_ble_eq_true rfl) (cW_ring t u0 htu hRC hto hsp hK.2.2.1 r N hN hr) (fun v9 s9 J9 L9 R9 h9 => ?_)
  have h1 := h9
  obtain ⟨rfl, hR9, -, hi9, hl9, -⟩ := h9
  have hM9 := zM_c hM hi9 hl9
  have e9 : v9 = some (.int (rgA9 r)) := by
    have := h1.2.2.2.2.2
    cases r with
    | inl s => exact this.1
    | inr e => exact this.1
  subst e9
  refine wv_aload_n dL_law_258 rfl ?_
  refine wv_v0 oX8_ring kL_27 dL_law_259 (by omega) (by first | assumption | rfl) ⟨rfl, by decide⟩ (Nat.le_of_ble_eq_true rfl) (Nat.le_of_ble_eq_true rfl) (wr_V.mono (d := 6) (d' := 64) (by omega) (x_ring hR9 T hM9.1 hP.1 (gI I u0) _ _ _ _ rfl r N hN hr)) (fun v8 s8 J8 L8 R8 h8 => ?_)
  obtain ⟨-, z2, z3, z4, z5⟩ := z_ring htu hK hM hP r N hN hr _ _ h1 _ _ _ h8
  subst z2 z3 z4
  refine wv_icmp_eq (tgt := 1009) dL_law_262 (by decide) (fun h262 => ?_) (fun h262 => absurd rfl h262)
  exact hc J8 L8 _ (zW_mo z5 (by omega))

set_option maxHeartbeats 4000000 in
set_option maxRecDepth 100000 in
theorem lz_fault {l : Launch} {R : wr_TR} (i n : Nat) (I : wr_TI) (L : wr_TL) (hn : n ≤ 3072) (hI : I 1000300 0 = nI n) (hi : i + 6 ≤ n) (hW : zW i I L R) (Q : wr_TQ) (hc : ∀ J K R', zW (i + 6) J K R' → wr_V l 65 mL_law 1009 [some (.ref 1000300), some (.ref 0), some (.ref 55), some (.int (nI i))] [] SH J K R' 0 0 Q) : wr_V l 65 mL_law 267 [some (.ref 1000300), some (.ref 0), some (.ref 55), some (.int (nI i))] [] SH I L R 0 0 Q := by
  obtain ⟨t, T, fa, g, u, F, m, tm, hb, B, hK, hM, hP⟩ := hW
  have ok : gOK g := rgV_ok hK.2.2.2.2.1
  refine wv_aload_n dL_law_267 rfl ?_
  refine wv_aload_n dL_law_268 rfl ?_
  refine wv_iload_n dL_law_269 rfl ?_
  refine wv_iconst (v := 1) dL_law_270 (by decide) ?_
  refine wv_iadd dL_law_271 ?_
  rw [show nI i + 1 = nI (i + 1) from nI_add i 1]
  refine wv_sld (i := (i + 1)) hn hI (by omega) dL_law_272 ?_
  refine wv_v1 oX7_fault kL_28 dL_law_273 (by omega) (by first | assumption | rfl) ⟨rfl, by decide⟩ (Nat.le_of_ble_eq_true rfl) (Nat.le_of_ble_eq_true rfl) (zc_fault hK _) (fun v9 s9 J9 L9 R9 h9 => ?_)
  obtain ⟨rfl, rfl, hi9, hl9, t9, hK9⟩ := h9
  have hs9 : J9 1000300 = I 1000300 := hi9 _ (by omega)
  have hI : J9 1000300 0 = nI n := by rw [hs9]; exact hI
  have hM9 := zM_c hM hi9 hl9
  refine wv_aload_n dL_law_276 rfl ?_
  refine wv_aload_n dL_law_277 rfl ?_
  refine wv_iload_n dL_law_278 rfl ?_
  refine wv_iconst (v := 1) dL_law_279 (by decide) ?_
  refine wv_iadd dL_law_280 ?_
  rw [show nI i + 1 = nI (i + 1) from nI_add i 1]
  refine wv_sld (i := (i + 1)) hn hI (by omega) dL_law_281 ?_
  rw [hs9]
  refine wv_v1 oX8_fault kL_31 dL_law_282 (by omega) (by first | assumption | rfl) ⟨rfl, by decide⟩ (Nat.le_of_ble_eq_true rfl) (Nat.le_of_ble_eq_true rfl) (zm_fault hK9.1 ok hM9 _) (fun v8 s8 J8 L8 R8 h8 => ?_)
  obtain ⟨rfl, rfl, rfl, hi8, hl8, hM8⟩ := h8
  refine wv_icmp_eq (tgt := 1009) dL_law_285 (by decide) (fun h285 => ?_) (fun h285 => absurd rfl h285)
  exact hc J8 L8 _ ⟨t9, _, _, _, _, _, _, _, _, _, zK_m hK9 hi8 hl8, hM8, (zP_mo hP (by omega))⟩

set_option maxHeartbeats 4000000 in
set_option maxRecDepth 100000 in
theorem lz_tryNow {l : Launch} {R : wr_TR} (i n : Nat) (I : wr_TI) (L : wr_TL) (hn : n ≤ 3072) (hI : I 1000300 0 = nI n) (hi : i + 6 ≤ n) (hW : zW i I L R) (Q : wr_TQ) (hc : ∀ J K R', zW (i + 6) J K R' → wr_V l 65 mL_law 1009 [some (.ref 1000300), some (.ref 0), some (.ref 55), some (.int (nI i))] [] SH J K R' 0 0 Q) : wr_V l 65 mL_law 290 [some (.ref 1000300), some (.ref 0), some (.ref 55), some (.int (nI i))] [] SH I L R 0 0 Q := by
  obtain ⟨t, T, fa, g, u, F, m, tm, hb, B, hK, hM, hP⟩ := hW
  have ok : gOK g := rgV_ok hK.2.2.2.2.1
  refine wv_aload_n dL_law_290 rfl ?_
  refine wv_v0 oX7_tryNow kL_32 dL_law_291 (by omega) (by first | assumption | rfl) ⟨rfl, by decide⟩ (Nat.le_of_ble_eq_true rfl) (Nat.le_of_ble_eq_true rfl) (zc_tryNow hK) (fun v9 s9 J9 L9 R9 h9 => ?_)
  obtain ⟨rfl, rfl, hi9, hl9, t9, hK9⟩ := h9
  have hs9 : J9 1000300 = I 1000300 := hi9 _ (by omega)
  have hI : J9 1000300 0 = nI n := by rw [hs9]; exact hI
  have hM9 := zM_c hM hi9 hl9
  refine wv_aload_n dL_law_294 rfl ?_
  refine wv_v0 oX8_tryNow kL_35 dL_law_295 (by omega) (by first | assumption | rfl) ⟨rfl, by decide⟩ (Nat.le_of_ble_eq_true rfl) (Nat.le_of_ble_eq_true rfl) (zm_tryNow hK9.1 ok hM9) (fun v8 s8 J8 L8 R8 h8 => ?_)
  obtain ⟨rfl, rfl, rfl, hi8, hl8, hM8⟩ := h8
  refine wv_icmp_eq (tgt := 1009) dL_law_298 (by decide) (fun h298 => ?_) (fun h298 => absurd rfl h298)
  exact hc J8 L8 _ ⟨t9, _, _, _, _, _, _, _, _, _, zK_m hK9 hi8 hl8, hM8, ⟨hP.1, fOK_mo (fOK_try hP.2.1) (by omega), hP.2.2.1, hP.2.2.2.1, hP.2.2.2.2.1, fun b hb3 hh => fOK_mo (hP.2.2.2.2.2 b hb3 hh) (by omega)⟩⟩

set_option maxHeartbeats 4000000 in
set_option maxRecDepth 100000 in
theorem lz_run {l : Launch} {R : wr_TR} (i n : Nat) (I : wr_TI) (L : wr_TL) (hn : n ≤ 3072) (hI : I 1000300 0 = nI n) (hi : i + 6 ≤ n) (hW : zW i I L R) (Q : wr_TQ) (hc : ∀ J K R', zW (i + 6) J K R' → wr_V l 65 mL_law 1009 [some (.ref 1000300), some (.ref 0), some (.ref 55), some (.int (nI i))] [] SH J K R' 0 0 Q) : wr_V l 65 mL_law 303 [some (.ref 1000300), some (.ref 0), some (.ref 55), some (.int (nI i))] [] SH I L R 0 0 Q := by
  obtain ⟨t, T, fa, g, u, F, m, tm, hb, B, hK, hM, hP⟩ := hW
  have ok : gOK g := rgV_ok hK.2.2.2.2.1
  obtain ⟨tn, htm, htn, -⟩ := hP.2.1
  refine wv_aload_n dL_law_303 rfl ?_
  refine wv_aload_n dL_law_304 rfl ?_
  refine wv_iload_n dL_law_305 rfl ?_
  refine wv_iconst (v := 1) dL_law_306 (by decide) ?_
  refine wv_iadd dL_law_307 ?_
  rw [show nI i + 1 = nI (i + 1) from nI_add i 1]
  refine wv_sld (i := (i + 1)) hn hI (by omega) dL_law_308 ?_
  refine wv_v1 oX7_run kL_36 dL_law_309 (by omega) (by first | assumption | rfl) ⟨rfl, by decide⟩ (Nat.le_of_ble_eq_true rfl) (Nat.le_of_ble_eq_true rfl) (zc_run hK _) (fun v9 s9 J9 L9 R9 h9 => ?_)
  obtain ⟨rfl, rfl, hi9, hl9, t9, hK9⟩ := h9
  have hs9 : J9 1000300 = I 1000300 := hi9 _ (by omega)
  have hI : J9 1000300 0 = nI n := by rw [hs9]; exact hI
  have hM9 := zM_c hM hi9 hl9
  refine wv_aload_n dL_law_312 rfl ?_
  refine wv_aload_n dL_law_313 rfl ?_
  refine wv_iload_n dL_law_314 rfl ?_
  refine wv_iconst (v := 1) dL_law_315 (by decide) ?_
  refine wv_iadd dL_law_316 ?_
  rw [show nI i + 1 = nI (i + 1) from nI_add i 1]
  refine wv_sld (i := (i + 1)) hn hI (by omega) dL_law_317 ?_
  rw [hs9]
  refine wv_v1 oX8_run kL_39 dL_law_318 (by omega) (by first | assumption | rfl) ⟨rfl, by decide⟩ (Nat.le_of_ble_eq_true rfl) (Nat.le_of_ble_eq_true rfl) (zm_run hK9.1 ok hM9 tn htn htm _) (fun v8 s8 J8 L8 R8 h8 => ?_)
  obtain ⟨rfl, rfl, rfl, hi8, hl8, hM8⟩ := h8
  refine wv_icmp_eq (tgt := 1009) dL_law_321 (by decide) (fun h321 => ?_) (fun h321 => absurd rfl h321)
  exact hc J8 L8 _ ⟨t9, _, _, _, _, _, _, _, _, _, zK_m hK9 hi8 hl8, hM8, ⟨hP.1, fOK_mo (fOK_run hP.2.1) (by omega), hP.2.2.1, hP.2.2.2.1, hP.2.2.2.2.1, fun b hb3 hh => fOK_mo (hP.2.2.2.2.2 b hb3 hh) (by omega)⟩⟩

set_option maxHeartbeats 4000000 in
set_option maxRecDepth 100000 in
theorem lz_seat {l : Launch} {R : wr_TR} (i n : Nat) (I : wr_TI) (L : wr_TL) (hn : n ≤ 3072) (hI : I 1000300 0 = nI n) (hi : i + 6 ≤ n) (hW : zW i I L R) (Q : wr_TQ) (hc : ∀ J K R', zW (i + 6) J K R' → wr_V l 65 mL_law 1009 [some (.ref 1000300), some (.ref 0), some (.ref 55), some (.int (nI i))] [] SH J K R' 0 0 Q) : wr_V l 65 mL_law 326 [some (.ref 1000300), some (.ref 0), some (.ref 55), some (.int (nI i))] [] SH I L R 0 0 Q := by
  obtain ⟨t, T, fa, g, u, F, m, tm, hb, B, hK, hM, hP⟩ := hW
  have ok : gOK g := rgV_ok hK.2.2.2.2.1
  refine wv_aload_n dL_law_326 rfl ?_
  refine wv_aload_n dL_law_327 rfl ?_
  refine wv_iload_n dL_law_328 rfl ?_
  refine wv_iconst (v := 1) dL_law_329 (by decide) ?_
  refine wv_iadd dL_law_330 ?_
  rw [show nI i + 1 = nI (i + 1) from nI_add i 1]
  refine wv_sld (i := (i + 1)) hn hI (by omega) dL_law_331 ?_
  refine wv_aload_n dL_law_332 rfl ?_
  refine wv_iload_n dL_law_333 rfl ?_
  refine wv_iconst (v := 2) dL_law_334 (by decide) ?_
  refine wv_iadd dL_law_335 ?_
  rw [show nI i + 2 = nI (i + 2) from nI_add i 2]
  refine wv_sld (i := (i + 2)) hn hI (by omega) dL_law_336 ?_
  refine wv_v2 oX7_seat kL_40 dL_law_337 (by omega) (by first | assumption | rfl) ⟨rfl, by decide⟩ (Nat.le_of_ble_eq_true rfl) (Nat.le_of_ble_eq_true rfl) (zc_seat hK _ _) (fun v9 s9 J9 L9 R9 h9 => ?_)
  obtain ⟨rfl, rfl, hi9, hl9, t9, hK9⟩ := h9
  have hs9 : J9 1000300 = I 1000300 := hi9 _ (by omega)
  have hI : J9 1000300 0 = nI n := by rw [hs9]; exact hI
  have hM9 := zM_c hM hi9 hl9
  refine wv_aload_n dL_law_340 rfl ?_
  refine wv_aload_n dL_law_341 rfl ?_
  refine wv_iload_n dL_law_342 rfl ?_
  refine wv_iconst (v := 1) dL_law_343 (by decide) ?_
  refine wv_iadd dL_law_344 ?_
  rw [show nI i + 1 = nI (i + 1) from nI_add i 1]
  refine wv_sld (i := (i + 1)) hn hI (by omega) dL_law_345 ?_
  refine wv_aload_n dL_law_346 rfl ?_
  refine wv_iload_n dL_law_347 rfl ?_
  refine wv_iconst (v := 2) dL_law_348 (by decide) ?_
  refine wv_iadd dL_law_349 ?_
  rw [show nI i + 2 = nI (i + 2) from nI_add i 2]
  refine wv_sld (i := (i + 2)) hn hI (by omega) dL_law_350 ?_
  rw [hs9]
  refine wv_v2 oX8_seat kL_44 dL_law_351 (by omega) (by first | assumption | rfl) ⟨rfl, by decide⟩ (Nat.le_of_ble_eq_true rfl) (Nat.le_of_ble_eq_true rfl) (zm_seat hK9.1 ok hM9 _ _) (fun v8 s8 J8 L8 R8 h8 => ?_)
  obtain ⟨rfl, rfl, rfl, hi8, hl8, hM8⟩ := h8
  refine wv_icmp_eq (tgt := 1009) dL_law_354 (by decide) (fun h354 => ?_) (fun h354 => absurd rfl h354)
  exact hc J8 L8 _ ⟨t9, _, _, _, _, _, _, _, _, _, zK_m hK9 hi8 hl8, hM8, (zP_mo hP (by omega))⟩

set_option maxHeartbeats 4000000 in
set_option maxRecDepth 100000 in
theorem lz_would {l : Launch} {R : wr_TR} (i n : Nat) (I : wr_TI) (L : wr_TL) (hn : n ≤ 3072) (hI : I 1000300 0 = nI n) (hi : i + 6 ≤ n) (hW : zW i I L R) (Q : wr_TQ) (hc : ∀ J K R', zW (i + 6) J K R' → wr_V l 65 mL_law 1009 [some (.ref 1000300), some (.ref 0), some (.ref 55), some (.int (nI i))] [] SH J K R' 0 0 Q) : wr_V l 65 mL_law 359 [some (.ref 1000300), some (.ref 0), some (.ref 55), some (.int (nI i))] [] SH I L R 0 0 Q := by
  obtain ⟨t, T, fa, g, u, F, m, tm, hb, B, hK, hM, hP⟩ := hW
  have ok : gOK g := rgV_ok hK.2.2.2.2.1
  refine wv_aload_n dL_law_359 rfl ?_
  refine wv_v0 oX7_would kL_45 dL_law_360 (by omega) (by first | assumption | rfl) ⟨rfl, by decide⟩ (Nat.le_of_ble_eq_true rfl) (Nat.le_of_ble_eq_true rfl) (zc_would hK) (fun v9 s9 J9 L9 R9 h9 => ?_)
  obtain ⟨rfl, rfl, hi9, hl9, t9, hK9⟩ := h9
  have hs9 : J9 1000300 = I 1000300 := hi9 _ (by omega)
  have hI : J9 1000300 0 = nI n := by rw [hs9]; exact hI
  have hM9 := zM_c hM hi9 hl9
  refine wv_aload_n dL_law_363 rfl ?_
  refine wv_v0 oX8_would kL_48 dL_law_364 (by omega) (by first | assumption | rfl) ⟨rfl, by decide⟩ (Nat.le_of_ble_eq_true rfl) (Nat.le_of_ble_eq_true rfl) (zm_would hK9.1 ok hM9) (fun v8 s8 J8 L8 R8 h8 => ?_)
  obtain ⟨rfl, rfl, rfl, hi8, hl8, hM8⟩ := h8
  refine wv_icmp_eq (tgt := 1009) dL_law_367 (by decide) (fun h367 => ?_) (fun h367 => absurd rfl h367)
  exact hc J8 L8 _ ⟨t9, _, _, _, _, _, _, _, _, _, zK_m hK9 hi8 hl8, hM8, (zP_mo hP (by omega))⟩

set_option maxHeartbeats 4000000 in
set_option maxRecDepth 100000 in
theorem lz_way {l : Launch} {R : wr_TR} (i n : Nat) (I : wr_TI) (L : wr_TL) (hn : n ≤ 3072) (hI : I 1000300 0 = nI n) (hi : i + 6 ≤ n) (hW : zW i I L R) (Q : wr_TQ) (hc : ∀ J K R', zW (i + 6) J K R' → wr_V l 65 mL_law 1009 [some (.ref 1000300), some (.ref 0), some (.ref 55), some (.int (nI i))] [] SH J K R' 0 0 Q) : wr_V l 65 mL_law 372 [some (.ref 1000300), some (.ref 0), some (.ref 55), some (.int (nI i))] [] SH I L R 0 0 Q := by
  obtain ⟨t, T, fa, g, u, F, m, tm, hb, B, hK, hM, hP⟩ := hW
  have ok : gOK g := rgV_ok hK.2.2.2.2.1
  refine wv_aload_n dL_law_372 rfl ?_
  refine wv_aload_n dL_law_373 rfl ?_
  refine wv_iload_n dL_law_374 rfl ?_
  refine wv_iconst (v := 1) dL_law_375 (by decide) ?_
  refine wv_iadd dL_law_376 ?_
  rw [show nI i + 1 = nI (i + 1) from nI_add i 1]
  refine wv_sld (i := (i + 1)) hn hI (by omega) dL_law_377 ?_
  refine wv_v1 oX7_way kL_49 dL_law_378 (by omega) (by first | assumption | rfl) ⟨rfl, by decide⟩ (Nat.le_of_ble_eq_true rfl) (Nat.le_of_ble_eq_true rfl) (zc_way hK _) (fun v9 s9 J9 L9 R9 h9 => ?_)
  obtain ⟨rfl, rfl, hi9, hl9, t9, hK9⟩ := h9
  have hs9 : J9 1000300 = I 1000300 := hi9 _ (by omega)
  have hI : J9 1000300 0 = nI n := by rw [hs9]; exact hI
  have hM9 := zM_c hM hi9 hl9
  refine wv_aload_n dL_law_381 rfl ?_
  refine wv_aload_n dL_law_382 rfl ?_
  refine wv_iload_n dL_law_383 rfl ?_
  refine wv_iconst (v := 1) dL_law_384 (by decide) ?_
  refine wv_iadd dL_law_385 ?_
  rw [show nI i + 1 = nI (i + 1) from nI_add i 1]
  refine wv_sld (i := (i + 1)) hn hI (by omega) dL_law_386 ?_
  rw [hs9]
  refine wv_v1 oX8_way kL_52 dL_law_387 (by omega) (by first | assumption | rfl) ⟨rfl, by decide⟩ (Nat.le_of_ble_eq_true rfl) (Nat.le_of_ble_eq_true rfl) (zm_way hK9.1 ok hM9 _) (fun v8 s8 J8 L8 R8 h8 => ?_)
  obtain ⟨rfl, rfl, rfl, hi8, hl8, hM8⟩ := h8
  refine wv_icmp_eq (tgt := 1009) dL_law_390 (by decide) (fun h390 => ?_) (fun h390 => absurd rfl h390)
  exact hc J8 L8 _ ⟨t9, _, _, _, _, _, _, _, _, _, zK_m hK9 hi8 hl8, hM8, (zP_mo hP (by omega))⟩

set_option maxHeartbeats 4000000 in
set_option maxRecDepth 100000 in
theorem lz_wide {l : Launch} {R : wr_TR} (i n : Nat) (I : wr_TI) (L : wr_TL) (hn : n ≤ 3072) (hI : I 1000300 0 = nI n) (hi : i + 6 ≤ n) (hW : zW i I L R) (Q : wr_TQ) (hc : ∀ J K R', zW (i + 6) J K R' → wr_V l 65 mL_law 1009 [some (.ref 1000300), some (.ref 0), some (.ref 55), some (.int (nI i))] [] SH J K R' 0 0 Q) : wr_V l 65 mL_law 395 [some (.ref 1000300), some (.ref 0), some (.ref 55), some (.int (nI i))] [] SH I L R 0 0 Q := by
  obtain ⟨t, T, fa, g, u, F, m, tm, hb, B, hK, hM, hP⟩ := hW
  have ok : gOK g := rgV_ok hK.2.2.2.2.1
  refine wv_aload_n dL_law_395 rfl ?_
  refine wv_v0 oX7_wide kL_53 dL_law_396 (by omega) (by first | assumption | rfl) ⟨rfl, by decide⟩ (Nat.le_of_ble_eq_true rfl) (Nat.le_of_ble_eq_true rfl) (zc_wide hK) (fun v9 s9 J9 L9 R9 h9 => ?_)
  obtain ⟨rfl, rfl, hi9, hl9, t9, hK9⟩ := h9
  have hs9 : J9 1000300 = I 1000300 := hi9 _ (by omega)
  have hI : J9 1000300 0 = nI n := by rw [hs9]; exact hI
  have hM9 := zM_c hM hi9 hl9
  refine wv_aload_n dL_law_399 rfl ?_
  refine wv_v0 oX8_wide kL_56 dL_law_400 (by omega) (by first | assumption | rfl) ⟨rfl, by decide⟩ (Nat.le_of_ble_eq_true rfl) (Nat.le_of_ble_eq_true rfl) (zm_wide hK9.1 ok hM9) (fun v8 s8 J8 L8 R8 h8 => ?_)
  obtain ⟨rfl, rfl, rfl, hi8, hl8, hM8⟩ := h8
  refine wv_icmp_eq (tgt := 1009) dL_law_403 (by decide) (fun h403 => ?_) (fun h403 => absurd rfl h403)
  exact hc J8 L8 _ ⟨t9, _, _, _, _, _, _, _, _, _, zK_m hK9 hi8 hl8, hM8, (zP_mo hP (by omega))⟩

set_option maxHeartbeats 4000000 in
set_option maxRecDepth 100000 in
theorem lz_waves {l : Launch} {R : wr_TR} (i n : Nat) (I : wr_TI) (L : wr_TL) (hn : n ≤ 3072) (hI : I 1000300 0 = nI n) (hi : i + 6 ≤ n) (hW : zW i I L R) (Q : wr_TQ) (hc : ∀ J K R', zW (i + 6) J K R' → wr_V l 65 mL_law 1009 [some (.ref 1000300), some (.ref 0), some (.ref 55), some (.int (nI i))] [] SH J K R' 0 0 Q) : wr_V l 65 mL_law 408 [some (.ref 1000300), some (.ref 0), some (.ref 55), some (.int (nI i))] [] SH I L R 0 0 Q := by
  obtain ⟨t, T, fa, g, u, F, m, tm, hb, B, hK, hM, hP⟩ := hW
  have ok : gOK g := rgV_ok hK.2.2.2.2.1
  refine wv_aload_n dL_law_408 rfl ?_
  refine wv_v0 oX7_waves kL_57 dL_law_409 (by omega) (by first | assumption | rfl) ⟨rfl, by decide⟩ (Nat.le_of_ble_eq_true rfl) (Nat.le_of_ble_eq_true rfl) (zc_waves hK) (fun v9 s9 J9 L9 R9 h9 => ?_)
  obtain ⟨rfl, rfl, hi9, hl9, t9, hK9⟩ := h9
  have hs9 : J9 1000300 = I 1000300 := hi9 _ (by omega)
  have hI : J9 1000300 0 = nI n := by rw [hs9]; exact hI
  have hM9 := zM_c hM hi9 hl9
  refine wv_aload_n dL_law_412 rfl ?_
  refine wv_v0 oX8_waves kL_60 dL_law_413 (by omega) (by first | assumption | rfl) ⟨rfl, by decide⟩ (Nat.le_of_ble_eq_true rfl) (Nat.le_of_ble_eq_true rfl) (zm_waves hK9.1 ok hM9) (fun v8 s8 J8 L8 R8 h8 => ?_)
  obtain ⟨rfl, rfl, rfl, hi8, hl8, hM8⟩ := h8
  refine wv_icmp_eq (tgt := 1009) dL_law_416 (by decide) (fun h416 => ?_) (fun h416 => absurd rfl h416)
  exact hc J8 L8 _ ⟨t9, _, _, _, _, _, _, _, _, _, zK_m hK9 hi8 hl8, hM8, (zP_mo hP (by omega))⟩

set_option maxHeartbeats 4000000 in
set_option maxRecDepth 100000 in
theorem lz_till {l : Launch} {R : wr_TR} (i n : Nat) (I : wr_TI) (L : wr_TL) (hn : n ≤ 3072) (hI : I 1000300 0 = nI n) (hi : i + 6 ≤ n) (hW : zW i I L R) (Q : wr_TQ) (hc : ∀ J K R', zW (i + 6) J K R' → wr_V l 65 mL_law 1009 [some (.ref 1000300), some (.ref 0), some (.ref 55), some (.int (nI i))] [] SH J K R' 0 0 Q) : wr_V l 65 mL_law 421 [some (.ref 1000300), some (.ref 0), some (.ref 55), some (.int (nI i))] [] SH I L R 0 0 Q := by
  obtain ⟨t, T, fa, g, u, F, m, tm, hb, B, hK, hM, hP⟩ := hW
  have ok : gOK g := rgV_ok hK.2.2.2.2.1
  refine wv_aload_n dL_law_421 rfl ?_
  refine wv_aload_n dL_law_422 rfl ?_
  refine wv_iload_n dL_law_423 rfl ?_
  refine wv_iconst (v := 1) dL_law_424 (by decide) ?_
  refine wv_iadd dL_law_425 ?_
  rw [show nI i + 1 = nI (i + 1) from nI_add i 1]
  refine wv_sld (i := (i + 1)) hn hI (by omega) dL_law_426 ?_
  refine wv_aload_n dL_law_427 rfl ?_
  refine wv_iload_n dL_law_428 rfl ?_
  refine wv_iconst (v := 2) dL_law_429 (by decide) ?_
  refine wv_iadd dL_law_430 ?_
  rw [show nI i + 2 = nI (i + 2) from nI_add i 2]
  refine wv_sld (i := (i + 2)) hn hI (by omega) dL_law_431 ?_
  refine wv_v2 oX7_till kL_61 dL_law_432 (by omega) (by first | assumption | rfl) ⟨rfl, by decide⟩ (Nat.le_of_ble_eq_true rfl) (Nat.le_of_ble_eq_true rfl) (zc_till hK _ _) (fun v9 s9 J9 L9 R9 h9 => ?_)
  obtain ⟨rfl, rfl, hi9, hl9, t9, hK9⟩ := h9
  have hs9 : J9 1000300 = I 1000300 := hi9 _ (by omega)
  have hI : J9 1000300 0 = nI n := by rw [hs9]; exact hI
  have hM9 := zM_c hM hi9 hl9
  refine wv_aload_n dL_law_435 rfl ?_
  refine wv_aload_n dL_law_436 rfl ?_
  refine wv_iload_n dL_law_437 rfl ?_
  refine wv_iconst (v := 1) dL_law_438 (by decide) ?_
  refine wv_iadd dL_law_439 ?_
  rw [show nI i + 1 = nI (i + 1) from nI_add i 1]
  refine wv_sld (i := (i + 1)) hn hI (by omega) dL_law_440 ?_
  refine wv_aload_n dL_law_441 rfl ?_
  refine wv_iload_n dL_law_442 rfl ?_
  refine wv_iconst (v := 2) dL_law_443 (by decide) ?_
  refine wv_iadd dL_law_444 ?_
  rw [show nI i + 2 = nI (i + 2) from nI_add i 2]
  refine wv_sld (i := (i + 2)) hn hI (by omega) dL_law_445 ?_
  rw [hs9]
  refine wv_v2 oX8_till kL_64 dL_law_446 (by omega) (by first | assumption | rfl) ⟨rfl, by decide⟩ (Nat.le_of_ble_eq_true rfl) (Nat.le_of_ble_eq_true rfl) (zm_till hK9.1 ok hM9 (fOK_ro hP.2.1 (by omega)) _ _) (fun v8 s8 J8 L8 R8 h8 => ?_)
  obtain ⟨rfl, rfl, rfl, hi8, hl8, hM8⟩ := h8
  refine wv_icmp_eq (tgt := 1009) dL_law_449 (by decide) (fun h449 => ?_) (fun h449 => absurd rfl h449)
  exact hc J8 L8 _ ⟨t9, _, _, _, _, _, _, _, _, _, zK_m hK9 hi8 hl8, hM8, (zP_mo hP (by omega))⟩

set_option maxHeartbeats 4000000 in
set_option maxRecDepth 100000 in
theorem lz_dies {l : Launch} {R : wr_TR} (i n : Nat) (I : wr_TI) (L : wr_TL) (hn : n ≤ 3072) (hI : I 1000300 0 = nI n) (hi : i + 6 ≤ n) (hW : zW i I L R) (Q : wr_TQ) (hc : ∀ J K R', zW (i + 6) J K R' → wr_V l 65 mL_law 1009 [some (.ref 1000300), some (.ref 0), some (.ref 55), some (.int (nI i))] [] SH J K R' 0 0 Q) : wr_V l 65 mL_law 454 [some (.ref 1000300), some (.ref 0), some (.ref 55), some (.int (nI i))] [] SH I L R 0 0 Q := by
  obtain ⟨t, T, fa, g, u, F, m, tm, hb, B, hK, hM, hP⟩ := hW
  have ok : gOK g := rgV_ok hK.2.2.2.2.1
  refine wv_aload_n dL_law_454 rfl ?_
  refine wv_v0 oX7_dies kL_65 dL_law_455 (by omega) (by first | assumption | rfl) ⟨rfl, by decide⟩ (Nat.le_of_ble_eq_true rfl) (Nat.le_of_ble_eq_true rfl) (zc_dies hK) (fun v9 s9 J9 L9 R9 h9 => ?_)
  obtain ⟨rfl, rfl, hi9, hl9, t9, hK9⟩ := h9
  have hs9 : J9 1000300 = I 1000300 := hi9 _ (by omega)
  have hI : J9 1000300 0 = nI n := by rw [hs9]; exact hI
  have hM9 := zM_c hM hi9 hl9
  refine wv_aload_n dL_law_458 rfl ?_
  refine wv_v0 oX8_dies kL_68 dL_law_459 (by omega) (by first | assumption | rfl) ⟨rfl, by decide⟩ (Nat.le_of_ble_eq_true rfl) (Nat.le_of_ble_eq_true rfl) (zm_dies hK9.1 ok hM9) (fun v8 s8 J8 L8 R8 h8 => ?_)
  obtain ⟨rfl, rfl, rfl, hi8, hl8, hM8⟩ := h8
  refine wv_icmp_eq (tgt := 1009) dL_law_462 (by decide) (fun h462 => ?_) (fun h462 => absurd rfl h462)
  exact hc J8 L8 _ ⟨t9, _, _, _, _, _, _, _, _, _, zK_m hK9 hi8 hl8, hM8, (zP_mo hP (by omega))⟩

set_option maxHeartbeats 4000000 in
set_option maxRecDepth 100000 in
theorem lz_lives {l : Launch} {R : wr_TR} (i n : Nat) (I : wr_TI) (L : wr_TL) (hn : n ≤ 3072) (hI : I 1000300 0 = nI n) (hi : i + 6 ≤ n) (hW : zW i I L R) (Q : wr_TQ) (hc : ∀ J K R', zW (i + 6) J K R' → wr_V l 65 mL_law 1009 [some (.ref 1000300), some (.ref 0), some (.ref 55), some (.int (nI i))] [] SH J K R' 0 0 Q) : wr_V l 65 mL_law 467 [some (.ref 1000300), some (.ref 0), some (.ref 55), some (.int (nI i))] [] SH I L R 0 0 Q := by
  obtain ⟨t, T, fa, g, u, F, m, tm, hb, B, hK, hM, hP⟩ := hW
  have ok : gOK g := rgV_ok hK.2.2.2.2.1
  refine wv_aload_n dL_law_467 rfl ?_
  refine wv_aload_n dL_law_468 rfl ?_
  refine wv_iload_n dL_law_469 rfl ?_
  refine wv_iconst (v := 1) dL_law_470 (by decide) ?_
  refine wv_iadd dL_law_471 ?_
  rw [show nI i + 1 = nI (i + 1) from nI_add i 1]
  refine wv_sld (i := (i + 1)) hn hI (by omega) dL_law_472 ?_
  refine wv_aload_n dL_law_473 rfl ?_
  refine wv_iload_n dL_law_474 rfl ?_
  refine wv_iconst (v := 2) dL_law_475 (by decide) ?_
  refine wv_iadd dL_law_476 ?_
  rw [show nI i + 2 = nI (i + 2) from nI_add i 2]
  refine wv_sld (i := (i + 2)) hn hI (by omega) dL_law_477 ?_
  refine wv_v2 oX7_lives kL_69 dL_law_478 (by omega) (by first | assumption | rfl) ⟨rfl, by decide⟩ (Nat.le_of_ble_eq_true rfl) (Nat.le_of_ble_eq_true rfl) (zc_lives hK _ _) (fun v9 s9 J9 L9 R9 h9 => ?_)
  obtain ⟨rfl, rfl, hi9, hl9, t9, hK9⟩ := h9
  have hs9 : J9 1000300 = I 1000300 := hi9 _ (by omega)
  have hI : J9 1000300 0 = nI n := by rw [hs9]; exact hI
  have hM9 := zM_c hM hi9 hl9
  refine wv_aload_n dL_law_481 rfl ?_
  refine wv_aload_n dL_law_482 rfl ?_
  refine wv_iload_n dL_law_483 rfl ?_
  refine wv_iconst (v := 1) dL_law_484 (by decide) ?_
  refine wv_iadd dL_law_485 ?_
  rw [show nI i + 1 = nI (i + 1) from nI_add i 1]
  refine wv_sld (i := (i + 1)) hn hI (by omega) dL_law_486 ?_
  refine wv_aload_n dL_law_487 rfl ?_
  refine wv_iload_n dL_law_488 rfl ?_
  refine wv_iconst (v := 2) dL_law_489 (by decide) ?_
  refine wv_iadd dL_law_490 ?_
  rw [show nI i + 2 = nI (i + 2) from nI_add i 2]
  refine wv_sld (i := (i + 2)) hn hI (by omega) dL_law_491 ?_
  rw [hs9]
  refine wv_v2 oX8_lives kL_72 dL_law_492 (by omega) (by first | assumption | rfl) ⟨rfl, by decide⟩ (Nat.le_of_ble_eq_true rfl) (Nat.le_of_ble_eq_true rfl) (zm_lives hK9.1 ok hM9 _ _) (fun v8 s8 J8 L8 R8 h8 => ?_)
  obtain ⟨rfl, rfl, rfl, hi8, hl8, hM8⟩ := h8
  refine wv_icmp_eq (tgt := 1009) dL_law_495 (by decide) (fun h495 => ?_) (fun h495 => absurd rfl h495)
  exact hc J8 L8 _ ⟨t9, _, _, _, _, _, _, _, _, _, zK_m hK9 hi8 hl8, hM8, (zP_mo hP (by omega))⟩

set_option maxHeartbeats 4000000 in
set_option maxRecDepth 100000 in
theorem lz_fewest {l : Launch} {R : wr_TR} (i n : Nat) (I : wr_TI) (L : wr_TL) (hn : n ≤ 3072) (hI : I 1000300 0 = nI n) (hi : i + 6 ≤ n) (hW : zW i I L R) (Q : wr_TQ) (hc : ∀ J K R', zW (i + 6) J K R' → wr_V l 65 mL_law 1009 [some (.ref 1000300), some (.ref 0), some (.ref 55), some (.int (nI i))] [] SH J K R' 0 0 Q) : wr_V l 65 mL_law 500 [some (.ref 1000300), some (.ref 0), some (.ref 55), some (.int (nI i))] [] SH I L R 0 0 Q := by
  obtain ⟨t, T, fa, g, u, F, m, tm, hb, B, hK, hM, hP⟩ := hW
  have ok : gOK g := rgV_ok hK.2.2.2.2.1
  refine wv_aload_n dL_law_500 rfl ?_
  refine wv_aload_n dL_law_501 rfl ?_
  refine wv_iload_n dL_law_502 rfl ?_
  refine wv_iconst (v := 1) dL_law_503 (by decide) ?_
  refine wv_iadd dL_law_504 ?_
  rw [show nI i + 1 = nI (i + 1) from nI_add i 1]
  refine wv_sld (i := (i + 1)) hn hI (by omega) dL_law_505 ?_
  refine wv_v1 oX7_fewest kL_73 dL_law_506 (by omega) (by first | assumption | rfl) ⟨rfl, by decide⟩ (Nat.le_of_ble_eq_true rfl) (Nat.le_of_ble_eq_true rfl) (zc_fewest hK _) (fun v9 s9 J9 L9 R9 h9 => ?_)
  obtain ⟨rfl, rfl, hi9, hl9, t9, hK9⟩ := h9
  have hs9 : J9 1000300 = I 1000300 := hi9 _ (by omega)
  have hI : J9 1000300 0 = nI n := by rw [hs9]; exact hI
  have hM9 := zM_c hM hi9 hl9
  refine wv_aload_n dL_law_509 rfl ?_
  refine wv_aload_n dL_law_510 rfl ?_
  refine wv_iload_n dL_law_511 rfl ?_
  refine wv_iconst (v := 1) dL_law_512 (by decide) ?_
  refine wv_iadd dL_law_513 ?_
  rw [show nI i + 1 = nI (i + 1) from nI_add i 1]
  refine wv_sld (i := (i + 1)) hn hI (by omega) dL_law_514 ?_
  rw [hs9]
  refine wv_v1 oX8_fewest kL_76 dL_law_515 (by omega) (by first | assumption | rfl) ⟨rfl, by decide⟩ (Nat.le_of_ble_eq_true rfl) (Nat.le_of_ble_eq_true rfl) (zm_fewest hK9.1 ok hM9 _) (fun v8 s8 J8 L8 R8 h8 => ?_)
  obtain ⟨rfl, rfl, rfl, hi8, hl8, hM8⟩ := h8
  refine wv_icmp_eq (tgt := 1009) dL_law_518 (by decide) (fun h518 => ?_) (fun h518 => absurd rfl h518)
  exact hc J8 L8 _ ⟨t9, _, _, _, _, _, _, _, _, _, zK_m hK9 hi8 hl8, hM8, (zP_mo hP (by omega))⟩

set_option maxHeartbeats 4000000 in
set_option maxRecDepth 100000 in
theorem lz_best {l : Launch} {R : wr_TR} (i n : Nat) (I : wr_TI) (L : wr_TL) (hn : n ≤ 3072) (hI : I 1000300 0 = nI n) (hi : i + 6 ≤ n) (hW : zW i I L R) (Q : wr_TQ) (hc : ∀ J K R', zW (i + 6) J K R' → wr_V l 65 mL_law 1009 [some (.ref 1000300), some (.ref 0), some (.ref 55), some (.int (nI i))] [] SH J K R' 0 0 Q) : wr_V l 65 mL_law 523 [some (.ref 1000300), some (.ref 0), some (.ref 55), some (.int (nI i))] [] SH I L R 0 0 Q := by
  obtain ⟨t, T, fa, g, u, F, m, tm, hb, B, hK, hM, hP⟩ := hW
  have ok : gOK g := rgV_ok hK.2.2.2.2.1
  refine wv_aload_n dL_law_523 rfl ?_
  refine wv_aload_n dL_law_524 rfl ?_
  refine wv_iload_n dL_law_525 rfl ?_
  refine wv_iconst (v := 1) dL_law_526 (by decide) ?_
  refine wv_iadd dL_law_527 ?_
  rw [show nI i + 1 = nI (i + 1) from nI_add i 1]
  refine wv_sld (i := (i + 1)) hn hI (by omega) dL_law_528 ?_
  refine wv_aload_n dL_law_529 rfl ?_
  refine wv_iload_n dL_law_530 rfl ?_
  refine wv_iconst (v := 2) dL_law_531 (by decide) ?_
  refine wv_iadd dL_law_532 ?_
  rw [show nI i + 2 = nI (i + 2) from nI_add i 2]
  refine wv_sld (i := (i + 2)) hn hI (by omega) dL_law_533 ?_
  refine wv_v2 oX7_best kL_77 dL_law_534 (by omega) (by first | assumption | rfl) ⟨rfl, by decide⟩ (Nat.le_of_ble_eq_true rfl) (Nat.le_of_ble_eq_true rfl) (zc_best hK _ _) (fun v9 s9 J9 L9 R9 h9 => ?_)
  obtain ⟨rfl, rfl, hi9, hl9, t9, hK9⟩ := h9
  have hs9 : J9 1000300 = I 1000300 := hi9 _ (by omega)
  have hI : J9 1000300 0 = nI n := by rw [hs9]; exact hI
  have hM9 := zM_c hM hi9 hl9
  refine wv_aload_n dL_law_537 rfl ?_
  refine wv_aload_n dL_law_538 rfl ?_
  refine wv_iload_n dL_law_539 rfl ?_
  refine wv_iconst (v := 1) dL_law_540 (by decide) ?_
  refine wv_iadd dL_law_541 ?_
  rw [show nI i + 1 = nI (i + 1) from nI_add i 1]
  refine wv_sld (i := (i + 1)) hn hI (by omega) dL_law_542 ?_
  refine wv_aload_n dL_law_543 rfl ?_
  refine wv_iload_n dL_law_544 rfl ?_
  refine wv_iconst (v := 2) dL_law_545 (by decide) ?_
  refine wv_iadd dL_law_546 ?_
  rw [show nI i + 2 = nI (i + 2) from nI_add i 2]
  refine wv_sld (i := (i + 2)) hn hI (by omega) dL_law_547 ?_
  rw [hs9]
  refine wv_v2 oX8_best kL_80 dL_law_548 (by omega) (by first | assumption | rfl) ⟨rfl, by decide⟩ (Nat.le_of_ble_eq_true rfl) (Nat.le_of_ble_eq_true rfl) (zm_best hK9.1 ok hM9 _ _) (fun v8 s8 J8 L8 R8 h8 => ?_)
  obtain ⟨rfl, rfl, rfl, hi8, hl8, hM8⟩ := h8
  refine wv_icmp_eq (tgt := 1009) dL_law_551 (by decide) (fun h551 => ?_) (fun h551 => absurd rfl h551)
  exact hc J8 L8 _ ⟨t9, _, _, _, _, _, _, _, _, _, zK_m hK9 hi8 hl8, hM8, (zP_mo hP (by omega))⟩

set_option maxHeartbeats 4000000 in
set_option maxRecDepth 100000 in
theorem lz_jumps {l : Launch} {R : wr_TR} (i n : Nat) (I : wr_TI) (L : wr_TL) (hn : n ≤ 3072) (hI : I 1000300 0 = nI n) (hi : i + 6 ≤ n) (hW : zW i I L R) (Q : wr_TQ) (hc : ∀ J K R', zW (i + 6) J K R' → wr_V l 65 mL_law 1009 [some (.ref 1000300), some (.ref 0), some (.ref 55), some (.int (nI i))] [] SH J K R' 0 0 Q) : wr_V l 65 mL_law 556 [some (.ref 1000300), some (.ref 0), some (.ref 55), some (.int (nI i))] [] SH I L R 0 0 Q := by
  obtain ⟨t, T, fa, g, u, F, m, tm, hb, B, hK, hM, hP⟩ := hW
  have ok : gOK g := rgV_ok hK.2.2.2.2.1
  refine wv_aload_n dL_law_556 rfl ?_
  refine wv_aload_n dL_law_557 rfl ?_
  refine wv_iload_n dL_law_558 rfl ?_
  refine wv_iconst (v := 1) dL_law_559 (by decide) ?_
  refine wv_iadd dL_law_560 ?_
  rw [show nI i + 1 = nI (i + 1) from nI_add i 1]
  refine wv_sld (i := (i + 1)) hn hI (by omega) dL_law_561 ?_
  refine wv_aload_n dL_law_562 rfl ?_
  refine wv_iload_n dL_law_563 rfl ?_
  refine wv_iconst (v := 2) dL_law_564 (by decide) ?_
  refine wv_iadd dL_law_565 ?_
  rw [show nI i + 2 = nI (i + 2) from nI_add i 2]
  refine wv_sld (i := (i + 2)) hn hI (by omega) dL_law_566 ?_
  refine wv_aload_n dL_law_567 rfl ?_
  refine wv_iload_n dL_law_568 rfl ?_
  refine wv_iconst (v := 3) dL_law_569 (by decide) ?_
  refine wv_iadd dL_law_570 ?_
  rw [show nI i + 3 = nI (i + 3) from nI_add i 3]
  refine wv_sld (i := (i + 3)) hn hI (by omega) dL_law_571 ?_
  refine wv_v3 oX7_jumps kL_81 dL_law_572 (by omega) (by first | assumption | rfl) ⟨rfl, by decide⟩ (Nat.le_of_ble_eq_true rfl) (Nat.le_of_ble_eq_true rfl) (zc_jumps hK _ _ _) (fun v9 s9 J9 L9 R9 h9 => ?_)
  obtain ⟨rfl, rfl, hi9, hl9, t9, hK9⟩ := h9
  have hs9 : J9 1000300 = I 1000300 := hi9 _ (by omega)
  have hI : J9 1000300 0 = nI n := by rw [hs9]; exact hI
  have hM9 := zM_c hM hi9 hl9
  refine wv_aload_n dL_law_575 rfl ?_
  refine wv_aload_n dL_law_576 rfl ?_
  refine wv_iload_n dL_law_577 rfl ?_
  refine wv_iconst (v := 1) dL_law_578 (by decide) ?_
  refine wv_iadd dL_law_579 ?_
  rw [show nI i + 1 = nI (i + 1) from nI_add i 1]
  refine wv_sld (i := (i + 1)) hn hI (by omega) dL_law_580 ?_
  refine wv_aload_n dL_law_581 rfl ?_
  refine wv_iload_n dL_law_582 rfl ?_
  refine wv_iconst (v := 2) dL_law_583 (by decide) ?_
  refine wv_iadd dL_law_584 ?_
  rw [show nI i + 2 = nI (i + 2) from nI_add i 2]
  refine wv_sld (i := (i + 2)) hn hI (by omega) dL_law_585 ?_
  refine wv_aload_n dL_law_586 rfl ?_
  refine wv_iload_n dL_law_587 rfl ?_
  refine wv_iconst (v := 3) dL_law_588 (by decide) ?_
  refine wv_iadd dL_law_589 ?_
  rw [show nI i + 3 = nI (i + 3) from nI_add i 3]
  refine wv_sld (i := (i + 3)) hn hI (by omega) dL_law_590 ?_
  rw [hs9]
  refine wv_v3 oX8_jumps kL_85 dL_law_591 (by omega) (by first | assumption | rfl) ⟨rfl, by decide⟩ (Nat.le_of_ble_eq_true rfl) (Nat.le_of_ble_eq_true rfl) (zm_jumps hK9.1 ok hM9 _ _ _) (fun v8 s8 J8 L8 R8 h8 => ?_)
  obtain ⟨rfl, rfl, rfl, hi8, hl8, hM8⟩ := h8
  refine wv_icmp_eq (tgt := 1009) dL_law_594 (by decide) (fun h594 => ?_) (fun h594 => absurd rfl h594)
  exact hc J8 L8 _ ⟨t9, _, _, _, _, _, _, _, _, _, zK_m hK9 hi8 hl8, hM8, (zP_mo hP (by omega))⟩

set_option maxHeartbeats 4000000 in
set_option maxRecDepth 100000 in
theorem lz_meet {l : Launch} {R : wr_TR} (i n : Nat) (I : wr_TI) (L : wr_TL) (hn : n ≤ 3072) (hI : I 1000300 0 = nI n) (hi : i + 6 ≤ n) (hW : zW i I L R) (Q : wr_TQ) (hc : ∀ J K R', zW (i + 6) J K R' → wr_V l 65 mL_law 1009 [some (.ref 1000300), some (.ref 0), some (.ref 55), some (.int (nI i))] [] SH J K R' 0 0 Q) : wr_V l 65 mL_law 599 [some (.ref 1000300), some (.ref 0), some (.ref 55), some (.int (nI i))] [] SH I L R 0 0 Q := by
  obtain ⟨t, T, fa, g, u, F, m, tm, hb, B, hK, hM, hP⟩ := hW
  have ok : gOK g := rgV_ok hK.2.2.2.2.1
  refine wv_aload_n dL_law_599 rfl ?_
  refine wv_aload_n dL_law_600 rfl ?_
  refine wv_iload_n dL_law_601 rfl ?_
  refine wv_iconst (v := 1) dL_law_602 (by decide) ?_
  refine wv_iadd dL_law_603 ?_
  rw [show nI i + 1 = nI (i + 1) from nI_add i 1]
  refine wv_sld (i := (i + 1)) hn hI (by omega) dL_law_604 ?_
  refine wv_aload_n dL_law_605 rfl ?_
  refine wv_iload_n dL_law_606 rfl ?_
  refine wv_iconst (v := 2) dL_law_607 (by decide) ?_
  refine wv_iadd dL_law_608 ?_
  rw [show nI i + 2 = nI (i + 2) from nI_add i 2]
  refine wv_sld (i := (i + 2)) hn hI (by omega) dL_law_609 ?_
  refine wv_aload_n dL_law_610 rfl ?_
  refine wv_iload_n dL_law_611 rfl ?_
  refine wv_iconst (v := 3) dL_law_612 (by decide) ?_
  refine wv_iadd dL_law_613 ?_
  rw [show nI i + 3 = nI (i + 3) from nI_add i 3]
  refine wv_sld (i := (i + 3)) hn hI (by omega) dL_law_614 ?_
  refine wv_v3 oX7_meet kL_86 dL_law_615 (by omega) (by first | assumption | rfl) ⟨rfl, by decide⟩ (Nat.le_of_ble_eq_true rfl) (Nat.le_of_ble_eq_true rfl) (zc_meet hK _ _ _) (fun v9 s9 J9 L9 R9 h9 => ?_)
  obtain ⟨rfl, rfl, hi9, hl9, t9, hK9⟩ := h9
  have hs9 : J9 1000300 = I 1000300 := hi9 _ (by omega)
  have hI : J9 1000300 0 = nI n := by rw [hs9]; exact hI
  have hM9 := zM_c hM hi9 hl9
  refine wv_aload_n dL_law_618 rfl ?_
  refine wv_aload_n dL_law_619 rfl ?_
  refine wv_iload_n dL_law_620 rfl ?_
  refine wv_iconst (v := 1) dL_law_621 (by decide) ?_
  refine wv_iadd dL_law_622 ?_
  rw [show nI i + 1 = nI (i + 1) from nI_add i 1]
  refine wv_sld (i := (i + 1)) hn hI (by omega) dL_law_623 ?_
  refine wv_aload_n dL_law_624 rfl ?_
  refine wv_iload_n dL_law_625 rfl ?_
  refine wv_iconst (v := 2) dL_law_626 (by decide) ?_
  refine wv_iadd dL_law_627 ?_
  rw [show nI i + 2 = nI (i + 2) from nI_add i 2]
  refine wv_sld (i := (i + 2)) hn hI (by omega) dL_law_628 ?_
  refine wv_aload_n dL_law_629 rfl ?_
  refine wv_iload_n dL_law_630 rfl ?_
  refine wv_iconst (v := 3) dL_law_631 (by decide) ?_
  refine wv_iadd dL_law_632 ?_
  rw [show nI i + 3 = nI (i + 3) from nI_add i 3]
  refine wv_sld (i := (i + 3)) hn hI (by omega) dL_law_633 ?_
  rw [hs9]
  refine wv_v3 oX8_meet kL_89 dL_law_634 (by omega) (by first | assumption | rfl) ⟨rfl, by decide⟩ (Nat.le_of_ble_eq_true rfl) (Nat.le_of_ble_eq_true rfl) (zm_meet hK9.1 ok hM9 _ _ _) (fun v8 s8 J8 L8 R8 h8 => ?_)
  obtain ⟨rfl, rfl, rfl, hi8, hl8, hM8⟩ := h8
  refine wv_icmp_eq (tgt := 1009) dL_law_637 (by decide) (fun h637 => ?_) (fun h637 => absurd rfl h637)
  exact hc J8 L8 _ ⟨t9, _, _, _, _, _, _, _, _, _, zK_m hK9 hi8 hl8, hM8, (zP_mo hP (by omega))⟩

set_option maxHeartbeats 4000000 in
set_option maxRecDepth 100000 in
theorem lz_odds {l : Launch} {R : wr_TR} (i n : Nat) (I : wr_TI) (L : wr_TL) (hn : n ≤ 3072) (hI : I 1000300 0 = nI n) (hi : i + 6 ≤ n) (hW : zW i I L R) (Q : wr_TQ) (hc : ∀ J K R', zW (i + 6) J K R' → wr_V l 65 mL_law 1009 [some (.ref 1000300), some (.ref 0), some (.ref 55), some (.int (nI i))] [] SH J K R' 0 0 Q) : wr_V l 65 mL_law 642 [some (.ref 1000300), some (.ref 0), some (.ref 55), some (.int (nI i))] [] SH I L R 0 0 Q := by
  obtain ⟨t, T, fa, g, u, F, m, tm, hb, B, hK, hM, hP⟩ := hW
  have ok : gOK g := rgV_ok hK.2.2.2.2.1
  refine wv_aload_n dL_law_642 rfl ?_
  refine wv_aload_n dL_law_643 rfl ?_
  refine wv_iload_n dL_law_644 rfl ?_
  refine wv_iconst (v := 1) dL_law_645 (by decide) ?_
  refine wv_iadd dL_law_646 ?_
  rw [show nI i + 1 = nI (i + 1) from nI_add i 1]
  refine wv_sld (i := (i + 1)) hn hI (by omega) dL_law_647 ?_
  refine wv_aload_n dL_law_648 rfl ?_
  refine wv_iload_n dL_law_649 rfl ?_
  refine wv_iconst (v := 2) dL_law_650 (by decide) ?_
  refine wv_iadd dL_law_651 ?_
  rw [show nI i + 2 = nI (i + 2) from nI_add i 2]
  refine wv_sld (i := (i + 2)) hn hI (by omega) dL_law_652 ?_
  refine wv_v2 oX7_odds kL_90 dL_law_653 (by omega) (by first | assumption | rfl) ⟨rfl, by decide⟩ (Nat.le_of_ble_eq_true rfl) (Nat.le_of_ble_eq_true rfl) (zc_odds hK _ _) (fun v9 s9 J9 L9 R9 h9 => ?_)
  obtain ⟨rfl, rfl, hi9, hl9, t9, hK9⟩ := h9
  have hs9 : J9 1000300 = I 1000300 := hi9 _ (by omega)
  have hI : J9 1000300 0 = nI n := by rw [hs9]; exact hI
  have hM9 := zM_c hM hi9 hl9
  refine wv_aload_n dL_law_656 rfl ?_
  refine wv_aload_n dL_law_657 rfl ?_
  refine wv_iload_n dL_law_658 rfl ?_
  refine wv_iconst (v := 1) dL_law_659 (by decide) ?_
  refine wv_iadd dL_law_660 ?_
  rw [show nI i + 1 = nI (i + 1) from nI_add i 1]
  refine wv_sld (i := (i + 1)) hn hI (by omega) dL_law_661 ?_
  refine wv_aload_n dL_law_662 rfl ?_
  refine wv_iload_n dL_law_663 rfl ?_
  refine wv_iconst (v := 2) dL_law_664 (by decide) ?_
  refine wv_iadd dL_law_665 ?_
  rw [show nI i + 2 = nI (i + 2) from nI_add i 2]
  refine wv_sld (i := (i + 2)) hn hI (by omega) dL_law_666 ?_
  rw [hs9]
  refine wv_v2 oX8_odds kL_94 dL_law_667 (by omega) (by first | assumption | rfl) ⟨rfl, by decide⟩ (Nat.le_of_ble_eq_true rfl) (Nat.le_of_ble_eq_true rfl) (zm_odds hK9.1 ok hM9 _ _) (fun v8 s8 J8 L8 R8 h8 => ?_)
  obtain ⟨rfl, rfl, rfl, hi8, hl8, hM8⟩ := h8
  refine wv_lcmp dL_law_670 ?_
  refine wv_if_eq (tgt := 1009) dL_law_671 (by decide) (fun h671 => ?_) (fun h671 => absurd (lcmp_rf _) h671)
  exact hc J8 L8 _ ⟨t9, _, _, _, _, _, _, _, _, _, zK_m hK9 hi8 hl8, hM8, (zP_mo hP (by omega))⟩

set_option maxHeartbeats 4000000 in
set_option maxRecDepth 100000 in
theorem lz_film {l : Launch} {R : wr_TR} (i n : Nat) (I : wr_TI) (L : wr_TL) (hn : n ≤ 3072) (hI : I 1000300 0 = nI n) (hi : i + 6 ≤ n) (hW : zW i I L R) (Q : wr_TQ) (hc : ∀ J K R', zW (i + 6) J K R' → wr_V l 65 mL_law 1009 [some (.ref 1000300), some (.ref 0), some (.ref 55), some (.int (nI i))] [] SH J K R' 0 0 Q) : wr_V l 65 mL_law 676 [some (.ref 1000300), some (.ref 0), some (.ref 55), some (.int (nI i))] [] SH I L R 0 0 Q := by
  obtain ⟨t, T, fa, g, u, F, m, tm, hb, B, hK, hM, hP⟩ := hW
  have ok : gOK g := rgV_ok hK.2.2.2.2.1
  refine wv_aload_n dL_law_676 rfl ?_
  refine wv_aload_n dL_law_677 rfl ?_
  refine wv_iload_n dL_law_678 rfl ?_
  refine wv_iconst (v := 1) dL_law_679 (by decide) ?_
  refine wv_iadd dL_law_680 ?_
  rw [show nI i + 1 = nI (i + 1) from nI_add i 1]
  refine wv_sld (i := (i + 1)) hn hI (by omega) dL_law_681 ?_
  refine wv_aload_n dL_law_682 rfl ?_
  refine wv_iload_n dL_law_683 rfl ?_
  refine wv_iconst (v := 2) dL_law_684 (by decide) ?_
  refine wv_iadd dL_law_685 ?_
  rw [show nI i + 2 = nI (i + 2) from nI_add i 2]
  refine wv_sld (i := (i + 2)) hn hI (by omega) dL_law_686 ?_
  refine wv_i2l dL_law_687 ?_
  refine wv_bipush (v := 32) dL_law_688 (by decide) ?_
  refine wv_lshl dL_law_690 ?_
  refine wv_aload_n dL_law_691 rfl ?_
  refine wv_iload_n dL_law_692 rfl ?_
  refine wv_iconst (v := 3) dL_law_693 (by decide) ?_
  refine wv_iadd dL_law_694 ?_
  rw [show nI i + 3 = nI (i + 3) from nI_add i 3]
  refine wv_sld (i := (i + 3)) hn hI (by omega) dL_law_695 ?_
  refine wv_i2l dL_law_696 ?_
  refine wv_ldc2_w nL_95 dL_law_697 ?_
  refine wv_land dL_law_700 ?_
  refine wv_lor dL_law_701 ?_
  refine wv_v2 oX7_film kL_97 dL_law_702 (by omega) (by first | assumption | rfl) ⟨rfl, by decide⟩ (Nat.le_of_ble_eq_true rfl) (Nat.le_of_ble_eq_true rfl) (zc_film hK _ _) (fun v9 s9 J9 L9 R9 h9 => ?_)
  obtain ⟨rfl, rfl, hi9, hl9, t9, hK9⟩ := h9
  have hs9 : J9 1000300 = I 1000300 := hi9 _ (by omega)
  have hI : J9 1000300 0 = nI n := by rw [hs9]; exact hI
  have hM9 := zM_c hM hi9 hl9
  refine wv_aload_n dL_law_705 rfl ?_
  refine wv_aload_n dL_law_706 rfl ?_
  refine wv_iload_n dL_law_707 rfl ?_
  refine wv_iconst (v := 1) dL_law_708 (by decide) ?_
  refine wv_iadd dL_law_709 ?_
  rw [show nI i + 1 = nI (i + 1) from nI_add i 1]
  refine wv_sld (i := (i + 1)) hn hI (by omega) dL_law_710 ?_
  refine wv_aload_n dL_law_711 rfl ?_
  refine wv_iload_n dL_law_712 rfl ?_
  refine wv_iconst (v := 2) dL_law_713 (by decide) ?_
  refine wv_iadd dL_law_714 ?_
  rw [show nI i + 2 = nI (i + 2) from nI_add i 2]
  refine wv_sld (i := (i + 2)) hn hI (by omega) dL_law_715 ?_
  refine wv_i2l dL_law_716 ?_
  refine wv_bipush (v := 32) dL_law_717 (by decide) ?_
  refine wv_lshl dL_law_719 ?_
  refine wv_aload_n dL_law_720 rfl ?_
  refine wv_iload_n dL_law_721 rfl ?_
  refine wv_iconst (v := 3) dL_law_722 (by decide) ?_
  refine wv_iadd dL_law_723 ?_
  rw [show nI i + 3 = nI (i + 3) from nI_add i 3]
  refine wv_sld (i := (i + 3)) hn hI (by omega) dL_law_724 ?_
  refine wv_i2l dL_law_725 ?_
  refine wv_ldc2_w nL_95 dL_law_726 ?_
  refine wv_land dL_law_729 ?_
  refine wv_lor dL_law_730 ?_
  rw [hs9]
  refine wv_v2 oX8_film kL_101 dL_law_731 (by omega) (by first | assumption | rfl) ⟨rfl, by decide⟩ (Nat.le_of_ble_eq_true rfl) (Nat.le_of_ble_eq_true rfl) (zm_film hK9.1 ok hM9 _ _) (fun v8 s8 J8 L8 R8 h8 => ?_)
  obtain ⟨rfl, rfl, rfl, hi8, hl8, hM8⟩ := h8
  refine wv_icmp_eq (tgt := 1009) dL_law_734 (by decide) (fun h734 => ?_) (fun h734 => absurd rfl h734)
  exact hc J8 L8 _ ⟨t9, _, _, _, _, _, _, _, _, _, zK_m hK9 hi8 hl8, hM8, (zP_mo (zp_film hP _ _) (by omega))⟩

set_option maxHeartbeats 4000000 in
set_option maxRecDepth 100000 in
theorem lz_untell {l : Launch} {R : wr_TR} (i n : Nat) (I : wr_TI) (L : wr_TL) (hn : n ≤ 3072) (hI : I 1000300 0 = nI n) (hi : i + 6 ≤ n) (hW : zW i I L R) (Q : wr_TQ) (hc : ∀ J K R', zW (i + 6) J K R' → wr_V l 65 mL_law 1009 [some (.ref 1000300), some (.ref 0), some (.ref 55), some (.int (nI i))] [] SH J K R' 0 0 Q) : wr_V l 65 mL_law 739 [some (.ref 1000300), some (.ref 0), some (.ref 55), some (.int (nI i))] [] SH I L R 0 0 Q := by
  obtain ⟨t, T, fa, g, u, F, m, tm, hb, B, hK, hM, hP⟩ := hW
  have ok : gOK g := rgV_ok hK.2.2.2.2.1
  refine wv_aload_n dL_law_739 rfl ?_
  refine wv_aload_n dL_law_740 rfl ?_
  refine wv_iload_n dL_law_741 rfl ?_
  refine wv_iconst (v := 1) dL_law_742 (by decide) ?_
  refine wv_iadd dL_law_743 ?_
  rw [show nI i + 1 = nI (i + 1) from nI_add i 1]
  refine wv_sld (i := (i + 1)) hn hI (by omega) dL_law_744 ?_
  refine wv_v1 oX7_untell kL_102 dL_law_745 (by omega) (by first | assumption | rfl) ⟨rfl, by decide⟩ (Nat.le_of_ble_eq_true rfl) (Nat.le_of_ble_eq_true rfl) (zc_untell hK _) (fun v9 s9 J9 L9 R9 h9 => ?_)
  obtain ⟨rfl, rfl, hi9, hl9, t9, hK9⟩ := h9
  have hs9 : J9 1000300 = I 1000300 := hi9 _ (by omega)
  have hI : J9 1000300 0 = nI n := by rw [hs9]; exact hI
  have hM9 := zM_c hM hi9 hl9
  refine wv_aload_n dL_law_748 rfl ?_
  refine wv_aload_n dL_law_749 rfl ?_
  refine wv_iload_n dL_law_750 rfl ?_
  refine wv_iconst (v := 1) dL_law_751 (by decide) ?_
  refine wv_iadd dL_law_752 ?_
  rw [show nI i + 1 = nI (i + 1) from nI_add i 1]
  refine wv_sld (i := (i + 1)) hn hI (by omega) dL_law_753 ?_
  rw [hs9]
  refine wv_v1 oX8_untell kL_106 dL_law_754 (by omega) (by first | assumption | rfl) ⟨rfl, by decide⟩ (Nat.le_of_ble_eq_true rfl) (Nat.le_of_ble_eq_true rfl) (zm_untell hK9.1 ok hM9 hP.2.2.1 _) (fun v8 s8 J8 L8 R8 h8 => ?_)
  obtain ⟨rfl, rfl, rfl, hi8, hl8, hM8⟩ := h8
  refine wv_icmp_eq (tgt := 1009) dL_law_757 (by decide) (fun h757 => ?_) (fun h757 => absurd rfl h757)
  exact hc J8 L8 _ ⟨t9, _, _, _, _, _, _, _, _, _, zK_m hK9 hi8 hl8, hM8, (zP_mo (zp_untell hP _) (by omega))⟩

set_option maxHeartbeats 4000000 in
set_option maxRecDepth 100000 in
theorem lz_later {l : Launch} {R : wr_TR} (i n : Nat) (I : wr_TI) (L : wr_TL) (hn : n ≤ 3072) (hI : I 1000300 0 = nI n) (hi : i + 6 ≤ n) (hW : zW i I L R) (Q : wr_TQ) (hc : ∀ J K R', zW (i + 6) J K R' → wr_V l 65 mL_law 1009 [some (.ref 1000300), some (.ref 0), some (.ref 55), some (.int (nI i))] [] SH J K R' 0 0 Q) : wr_V l 65 mL_law 762 [some (.ref 1000300), some (.ref 0), some (.ref 55), some (.int (nI i))] [] SH I L R 0 0 Q := by
  obtain ⟨t, T, fa, g, u, F, m, tm, hb, B, hK, hM, hP⟩ := hW
  have ok : gOK g := rgV_ok hK.2.2.2.2.1
  refine wv_aload_n dL_law_762 rfl ?_
  refine wv_aload_n dL_law_763 rfl ?_
  refine wv_iload_n dL_law_764 rfl ?_
  refine wv_iconst (v := 1) dL_law_765 (by decide) ?_
  refine wv_iadd dL_law_766 ?_
  rw [show nI i + 1 = nI (i + 1) from nI_add i 1]
  refine wv_sld (i := (i + 1)) hn hI (by omega) dL_law_767 ?_
  refine wv_v1 oX7_later kL_107 dL_law_768 (by omega) (by first | assumption | rfl) ⟨rfl, by decide⟩ (Nat.le_of_ble_eq_true rfl) (Nat.le_of_ble_eq_true rfl) (zc_later hK _) (fun v9 s9 J9 L9 R9 h9 => ?_)
  obtain ⟨rfl, rfl, hi9, hl9, t9, hK9⟩ := h9
  have hs9 : J9 1000300 = I 1000300 := hi9 _ (by omega)
  have hI : J9 1000300 0 = nI n := by rw [hs9]; exact hI
  have hM9 := zM_c hM hi9 hl9
  refine wv_aload_n dL_law_771 rfl ?_
  refine wv_aload_n dL_law_772 rfl ?_
  refine wv_iload_n dL_law_773 rfl ?_
  refine wv_iconst (v := 1) dL_law_774 (by decide) ?_
  refine wv_iadd dL_law_775 ?_
  rw [show nI i + 1 = nI (i + 1) from nI_add i 1]
  refine wv_sld (i := (i + 1)) hn hI (by omega) dL_law_776 ?_
  rw [hs9]
  refine wv_v1 oX8_later kL_110 dL_law_777 (by omega) (by first | assumption | rfl) ⟨rfl, by decide⟩ (Nat.le_of_ble_eq_true rfl) (Nat.le_of_ble_eq_true rfl) (zm_later hK9.1 ok hM9 hP.2.2.2.2.1.1 hP.2.2.2.2.1.2 _) (fun v8 s8 J8 L8 R8 h8 => ?_)
  obtain ⟨rfl, rfl, rfl, hi8, hl8, hM8⟩ := h8
  refine wv_icmp_eq (tgt := 1009) dL_law_780 (by decide) (fun h780 => ?_) (fun h780 => absurd rfl h780)
  exact hc J8 L8 _ ⟨t9, _, _, _, _, _, _, _, _, _, zK_m hK9 hi8 hl8, hM8, (zP_mo (zp_later hP _) (by omega))⟩

set_option maxHeartbeats 4000000 in
set_option maxRecDepth 100000 in
theorem lz_fits {l : Launch} {R : wr_TR} (i n : Nat) (I : wr_TI) (L : wr_TL) (hn : n ≤ 3072) (hI : I 1000300 0 = nI n) (hi : i + 6 ≤ n) (hW : zW i I L R) (Q : wr_TQ) (hc : ∀ J K R', zW (i + 6) J K R' → wr_V l 65 mL_law 1009 [some (.ref 1000300), some (.ref 0), some (.ref 55), some (.int (nI i))] [] SH J K R' 0 0 Q) : wr_V l 65 mL_law 785 [some (.ref 1000300), some (.ref 0), some (.ref 55), some (.int (nI i))] [] SH I L R 0 0 Q := by
  obtain ⟨t, T, fa, g, u, F, m, tm, hb, B, hK, hM, hP⟩ := hW
  have ok : gOK g := rgV_ok hK.2.2.2.2.1
  refine wv_aload_n dL_law_785 rfl ?_
  refine wv_aload_n dL_law_786 rfl ?_
  refine wv_iload_n dL_law_787 rfl ?_
  refine wv_iconst (v := 1) dL_law_788 (by decide) ?_
  refine wv_iadd dL_law_789 ?_
  rw [show nI i + 1 = nI (i + 1) from nI_add i 1]
  refine wv_sld (i := (i + 1)) hn hI (by omega) dL_law_790 ?_
  refine wv_v1 oX7_fits kL_111 dL_law_791 (by omega) (by first | assumption | rfl) ⟨rfl, by decide⟩ (Nat.le_of_ble_eq_true rfl) (Nat.le_of_ble_eq_true rfl) (zc_fits hK hP.2.2.2.1 _) (fun v9 s9 J9 L9 R9 h9 => ?_)
  obtain ⟨rfl, rfl, hi9, hl9, t9, hK9⟩ := h9
  have hs9 : J9 1000300 = I 1000300 := hi9 _ (by omega)
  have hI : J9 1000300 0 = nI n := by rw [hs9]; exact hI
  have hM9 := zM_c hM hi9 hl9
  refine wv_aload_n dL_law_794 rfl ?_
  refine wv_aload_n dL_law_795 rfl ?_
  refine wv_iload_n dL_law_796 rfl ?_
  refine wv_iconst (v := 1) dL_law_797 (by decide) ?_
  refine wv_iadd dL_law_798 ?_
  rw [show nI i + 1 = nI (i + 1) from nI_add i 1]
  refine wv_sld (i := (i + 1)) hn hI (by omega) dL_law_799 ?_
  rw [hs9]
  refine wv_v1 oX8_fits kL_114 dL_law_800 (by omega) (by first | assumption | rfl) ⟨rfl, by decide⟩ (Nat.le_of_ble_eq_true rfl) (Nat.le_of_ble_eq_true rfl) (zm_fits hK9.1 ok hM9 hP.2.2.1 _) (fun v8 s8 J8 L8 R8 h8 => ?_)
  obtain ⟨rfl, rfl, rfl, hi8, hl8, hM8⟩ := h8
  refine wv_icmp_eq (tgt := 1009) dL_law_803 (by decide) (fun h803 => ?_) (fun h803 => absurd rfl h803)
  exact hc J8 L8 _ ⟨t9, _, _, _, _, _, _, _, _, _, zK_m hK9 hi8 hl8, hM8, (zP_mo hP (by omega))⟩

set_option maxHeartbeats 4000000 in
set_option maxRecDepth 100000 in
theorem lz_fit {l : Launch} {R : wr_TR} (i n : Nat) (I : wr_TI) (L : wr_TL) (hn : n ≤ 3072) (hI : I 1000300 0 = nI n) (hi : i + 6 ≤ n) (hW : zW i I L R) (Q : wr_TQ) (hc : ∀ J K R', zW (i + 6) J K R' → wr_V l 65 mL_law 1009 [some (.ref 1000300), some (.ref 0), some (.ref 55), some (.int (nI i))] [] SH J K R' 0 0 Q) : wr_V l 65 mL_law 808 [some (.ref 1000300), some (.ref 0), some (.ref 55), some (.int (nI i))] [] SH I L R 0 0 Q := by
  obtain ⟨t, T, fa, g, u, F, m, tm, hb, B, hK, hM, hP⟩ := hW
  have ok : gOK g := rgV_ok hK.2.2.2.2.1
  refine wv_aload_n dL_law_808 rfl ?_
  refine wv_aload_n dL_law_809 rfl ?_
  refine wv_iload_n dL_law_810 rfl ?_
  refine wv_iconst (v := 1) dL_law_811 (by decide) ?_
  refine wv_iadd dL_law_812 ?_
  rw [show nI i + 1 = nI (i + 1) from nI_add i 1]
  refine wv_sld (i := (i + 1)) hn hI (by omega) dL_law_813 ?_
  refine wv_aload_n dL_law_814 rfl ?_
  refine wv_iload_n dL_law_815 rfl ?_
  refine wv_iconst (v := 2) dL_law_816 (by decide) ?_
  refine wv_iadd dL_law_817 ?_
  rw [show nI i + 2 = nI (i + 2) from nI_add i 2]
  refine wv_sld (i := (i + 2)) hn hI (by omega) dL_law_818 ?_
  refine wv_v2 oX7_fit kL_115 dL_law_819 (by omega) (by first | assumption | rfl) ⟨rfl, by decide⟩ (Nat.le_of_ble_eq_true rfl) (Nat.le_of_ble_eq_true rfl) (zc_fit hK hP.2.2.2.1 _ _) (fun v9 s9 J9 L9 R9 h9 => ?_)
  obtain ⟨rfl, rfl, hi9, hl9, t9, hK9⟩ := h9
  have hs9 : J9 1000300 = I 1000300 := hi9 _ (by omega)
  have hI : J9 1000300 0 = nI n := by rw [hs9]; exact hI
  have hM9 := zM_c hM hi9 hl9
  refine wv_aload_n dL_law_822 rfl ?_
  refine wv_aload_n dL_law_823 rfl ?_
  refine wv_iload_n dL_law_824 rfl ?_
  refine wv_iconst (v := 1) dL_law_825 (by decide) ?_
  refine wv_iadd dL_law_826 ?_
  rw [show nI i + 1 = nI (i + 1) from nI_add i 1]
  refine wv_sld (i := (i + 1)) hn hI (by omega) dL_law_827 ?_
  refine wv_aload_n dL_law_828 rfl ?_
  refine wv_iload_n dL_law_829 rfl ?_
  refine wv_iconst (v := 2) dL_law_830 (by decide) ?_
  refine wv_iadd dL_law_831 ?_
  rw [show nI i + 2 = nI (i + 2) from nI_add i 2]
  refine wv_sld (i := (i + 2)) hn hI (by omega) dL_law_832 ?_
  rw [hs9]
  refine wv_v2 oX8_fit kL_118 dL_law_833 (by omega) (by first | assumption | rfl) ⟨rfl, by decide⟩ (Nat.le_of_ble_eq_true rfl) (Nat.le_of_ble_eq_true rfl) (zm_fit hK9.1 ok hM9 hP.2.2.1 _ _) (fun v8 s8 J8 L8 R8 h8 => ?_)
  obtain ⟨rfl, rfl, rfl, hi8, hl8, hM8⟩ := h8
  refine wv_icmp_eq (tgt := 1009) dL_law_836 (by decide) (fun h836 => ?_) (fun h836 => absurd rfl h836)
  exact hc J8 L8 _ ⟨t9, _, _, _, _, _, _, _, _, _, zK_m hK9 hi8 hl8, hM8, (zP_mo hP (by omega))⟩

set_option maxHeartbeats 4000000 in
set_option maxRecDepth 100000 in
theorem lz_sure {l : Launch} {R : wr_TR} (i n : Nat) (I : wr_TI) (L : wr_TL) (hn : n ≤ 3072) (hI : I 1000300 0 = nI n) (hi : i + 6 ≤ n) (hW : zW i I L R) (Q : wr_TQ) (hc : ∀ J K R', zW (i + 6) J K R' → wr_V l 65 mL_law 1009 [some (.ref 1000300), some (.ref 0), some (.ref 55), some (.int (nI i))] [] SH J K R' 0 0 Q) : wr_V l 65 mL_law 841 [some (.ref 1000300), some (.ref 0), some (.ref 55), some (.int (nI i))] [] SH I L R 0 0 Q := by
  obtain ⟨t, T, fa, g, u, F, m, tm, hb, B, hK, hM, hP⟩ := hW
  have ok : gOK g := rgV_ok hK.2.2.2.2.1
  refine wv_aload_n dL_law_841 rfl ?_
  refine wv_aload_n dL_law_842 rfl ?_
  refine wv_iload_n dL_law_843 rfl ?_
  refine wv_iconst (v := 1) dL_law_844 (by decide) ?_
  refine wv_iadd dL_law_845 ?_
  rw [show nI i + 1 = nI (i + 1) from nI_add i 1]
  refine wv_sld (i := (i + 1)) hn hI (by omega) dL_law_846 ?_
  refine wv_aload_n dL_law_847 rfl ?_
  refine wv_iload_n dL_law_848 rfl ?_
  refine wv_iconst (v := 2) dL_law_849 (by decide) ?_
  refine wv_iadd dL_law_850 ?_
  rw [show nI i + 2 = nI (i + 2) from nI_add i 2]
  refine wv_sld (i := (i + 2)) hn hI (by omega) dL_law_851 ?_
  refine wv_aload_n dL_law_852 rfl ?_
  refine wv_iload_n dL_law_853 rfl ?_
  refine wv_iconst (v := 3) dL_law_854 (by decide) ?_
  refine wv_iadd dL_law_855 ?_
  rw [show nI i + 3 = nI (i + 3) from nI_add i 3]
  refine wv_sld (i := (i + 3)) hn hI (by omega) dL_law_856 ?_
  refine wv_v3 oX7_sure kL_119 dL_law_857 (by omega) (by first | assumption | rfl) ⟨rfl, by decide⟩ (Nat.le_of_ble_eq_true rfl) (Nat.le_of_ble_eq_true rfl) (zc_sure hK hP.2.2.2.1 _ _ _) (fun v9 s9 J9 L9 R9 h9 => ?_)
  obtain ⟨rfl, rfl, hi9, hl9, t9, hK9⟩ := h9
  have hs9 : J9 1000300 = I 1000300 := hi9 _ (by omega)
  have hI : J9 1000300 0 = nI n := by rw [hs9]; exact hI
  have hM9 := zM_c hM hi9 hl9
  refine wv_aload_n dL_law_860 rfl ?_
  refine wv_aload_n dL_law_861 rfl ?_
  refine wv_iload_n dL_law_862 rfl ?_
  refine wv_iconst (v := 1) dL_law_863 (by decide) ?_
  refine wv_iadd dL_law_864 ?_
  rw [show nI i + 1 = nI (i + 1) from nI_add i 1]
  refine wv_sld (i := (i + 1)) hn hI (by omega) dL_law_865 ?_
  refine wv_aload_n dL_law_866 rfl ?_
  refine wv_iload_n dL_law_867 rfl ?_
  refine wv_iconst (v := 2) dL_law_868 (by decide) ?_
  refine wv_iadd dL_law_869 ?_
  rw [show nI i + 2 = nI (i + 2) from nI_add i 2]
  refine wv_sld (i := (i + 2)) hn hI (by omega) dL_law_870 ?_
  refine wv_aload_n dL_law_871 rfl ?_
  refine wv_iload_n dL_law_872 rfl ?_
  refine wv_iconst (v := 3) dL_law_873 (by decide) ?_
  refine wv_iadd dL_law_874 ?_
  rw [show nI i + 3 = nI (i + 3) from nI_add i 3]
  refine wv_sld (i := (i + 3)) hn hI (by omega) dL_law_875 ?_
  rw [hs9]
  refine wv_v3 oX8_sure kL_122 dL_law_876 (by omega) (by first | assumption | rfl) ⟨rfl, by decide⟩ (Nat.le_of_ble_eq_true rfl) (Nat.le_of_ble_eq_true rfl) (zm_sure hK9.1 ok hM9 hP.2.2.1 _ _ _) (fun v8 s8 J8 L8 R8 h8 => ?_)
  obtain ⟨rfl, rfl, rfl, hi8, hl8, hM8⟩ := h8
  refine wv_icmp_eq (tgt := 1009) dL_law_879 (by decide) (fun h879 => ?_) (fun h879 => absurd rfl h879)
  exact hc J8 L8 _ ⟨t9, _, _, _, _, _, _, _, _, _, zK_m hK9 hi8 hl8, hM8, (zP_mo hP (by omega))⟩

set_option maxHeartbeats 4000000 in
set_option maxRecDepth 100000 in
theorem lz_same {l : Launch} {R : wr_TR} (i n : Nat) (I : wr_TI) (L : wr_TL) (hn : n ≤ 3072) (hI : I 1000300 0 = nI n) (hi : i + 6 ≤ n) (hW : zW i I L R) (Q : wr_TQ) (hc : ∀ J K R', zW (i + 6) J K R' → wr_V l 65 mL_law 1009 [some (.ref 1000300), some (.ref 0), some (.ref 55), some (.int (nI i))] [] SH J K R' 0 0 Q) : wr_V l 65 mL_law 884 [some (.ref 1000300), some (.ref 0), some (.ref 55), some (.int (nI i))] [] SH I L R 0 0 Q := by
  obtain ⟨t, T, fa, g, u, F, m, tm, hb, B, hK, hM, hP⟩ := hW
  have ok : gOK g := rgV_ok hK.2.2.2.2.1
  refine wv_aload_n dL_law_884 rfl ?_
  refine wv_aload_n dL_law_885 rfl ?_
  refine wv_iload_n dL_law_886 rfl ?_
  refine wv_iconst (v := 1) dL_law_887 (by decide) ?_
  refine wv_iadd dL_law_888 ?_
  rw [show nI i + 1 = nI (i + 1) from nI_add i 1]
  refine wv_sld (i := (i + 1)) hn hI (by omega) dL_law_889 ?_
  refine wv_aload_n dL_law_890 rfl ?_
  refine wv_iload_n dL_law_891 rfl ?_
  refine wv_iconst (v := 2) dL_law_892 (by decide) ?_
  refine wv_iadd dL_law_893 ?_
  rw [show nI i + 2 = nI (i + 2) from nI_add i 2]
  refine wv_sld (i := (i + 2)) hn hI (by omega) dL_law_894 ?_
  refine wv_v2 oX7_same kL_123 dL_law_895 (by omega) (by first | assumption | rfl) ⟨rfl, by decide⟩ (Nat.le_of_ble_eq_true rfl) (Nat.le_of_ble_eq_true rfl) (zc_same hK _ _) (fun v9 s9 J9 L9 R9 h9 => ?_)
  obtain ⟨rfl, rfl, hi9, hl9, t9, hK9⟩ := h9
  have hs9 : J9 1000300 = I 1000300 := hi9 _ (by omega)
  have hI : J9 1000300 0 = nI n := by rw [hs9]; exact hI
  have hM9 := zM_c hM hi9 hl9
  refine wv_aload_n dL_law_898 rfl ?_
  refine wv_aload_n dL_law_899 rfl ?_
  refine wv_iload_n dL_law_900 rfl ?_
  refine wv_iconst (v := 1) dL_law_901 (by decide) ?_
  refine wv_iadd dL_law_902 ?_
  rw [show nI i + 1 = nI (i + 1) from nI_add i 1]
  refine wv_sld (i := (i + 1)) hn hI (by omega) dL_law_903 ?_
  refine wv_aload_n dL_law_904 rfl ?_
  refine wv_iload_n dL_law_905 rfl ?_
  refine wv_iconst (v := 2) dL_law_906 (by decide) ?_
  refine wv_iadd dL_law_907 ?_
  rw [show nI i + 2 = nI (i + 2) from nI_add i 2]
  refine wv_sld (i := (i + 2)) hn hI (by omega) dL_law_908 ?_
  rw [hs9]
  refine wv_v2 oX8_same kL_126 dL_law_909 (by omega) (by first | assumption | rfl) ⟨rfl, by decide⟩ (Nat.le_of_ble_eq_true rfl) (Nat.le_of_ble_eq_true rfl) (zm_same hK9.1 ok hM9 _ _) (fun v8 s8 J8 L8 R8 h8 => ?_)
  obtain ⟨rfl, rfl, rfl, hi8, hl8, hM8⟩ := h8
  refine wv_icmp_eq (tgt := 1009) dL_law_912 (by decide) (fun h912 => ?_) (fun h912 => absurd rfl h912)
  exact hc J8 L8 _ ⟨t9, _, _, _, _, _, _, _, _, _, zK_m hK9 hi8 hl8, hM8, (zP_mo hP (by omega))⟩

set_option maxHeartbeats 4000000 in
set_option maxRecDepth 100000 in
theorem lz_image {l : Launch} {R : wr_TR} (i n : Nat) (I : wr_TI) (L : wr_TL) (hn : n ≤ 3072) (hI : I 1000300 0 = nI n) (hi : i + 6 ≤ n) (hW : zW i I L R) (Q : wr_TQ) (hc : ∀ J K R', zW (i + 6) J K R' → wr_V l 65 mL_law 1009 [some (.ref 1000300), some (.ref 0), some (.ref 55), some (.int (nI i))] [] SH J K R' 0 0 Q) : wr_V l 65 mL_law 917 [some (.ref 1000300), some (.ref 0), some (.ref 55), some (.int (nI i))] [] SH I L R 0 0 Q := by
  obtain ⟨t, T, fa, g, u, F, m, tm, hb, B, hK, hM, hP⟩ := hW
  have ok : gOK g := rgV_ok hK.2.2.2.2.1
  refine wv_aload_n dL_law_917 rfl ?_
  refine wv_aload_n dL_law_918 rfl ?_
  refine wv_iload_n dL_law_919 rfl ?_
  refine wv_iconst (v := 1) dL_law_920 (by decide) ?_
  refine wv_iadd dL_law_921 ?_
  rw [show nI i + 1 = nI (i + 1) from nI_add i 1]
  refine wv_sld (i := (i + 1)) hn hI (by omega) dL_law_922 ?_
  refine wv_v1 oX7_image kL_127 dL_law_923 (by omega) (by first | assumption | rfl) ⟨rfl, by decide⟩ (Nat.le_of_ble_eq_true rfl) (Nat.le_of_ble_eq_true rfl) (zc_image hK _) (fun v9 s9 J9 L9 R9 h9 => ?_)
  obtain ⟨rfl, rfl, hi9, hl9, t9, hK9⟩ := h9
  have hs9 : J9 1000300 = I 1000300 := hi9 _ (by omega)
  have hI : J9 1000300 0 = nI n := by rw [hs9]; exact hI
  have hM9 := zM_c hM hi9 hl9
  refine wv_aload_n dL_law_926 rfl ?_
  refine wv_aload_n dL_law_927 rfl ?_
  refine wv_iload_n dL_law_928 rfl ?_
  refine wv_iconst (v := 1) dL_law_929 (by decide) ?_
  refine wv_iadd dL_law_930 ?_
  rw [show nI i + 1 = nI (i + 1) from nI_add i 1]
  refine wv_sld (i := (i + 1)) hn hI (by omega) dL_law_931 ?_
  rw [hs9]
  refine wv_v1 oX8_image kL_130 dL_law_932 (by omega) (by first | assumption | rfl) ⟨rfl, by decide⟩ (Nat.le_of_ble_eq_true rfl) (Nat.le_of_ble_eq_true rfl) (zm_image hK9.1 ok hM9 _) (fun v8 s8 J8 L8 R8 h8 => ?_)
  obtain ⟨rfl, rfl, rfl, hi8, hl8, hM8⟩ := h8
  refine wv_icmp_eq (tgt := 1009) dL_law_935 (by decide) (fun h935 => ?_) (fun h935 => absurd rfl h935)
  exact hc J8 L8 _ ⟨t9, _, _, _, _, _, _, _, _, _, zK_m hK9 hi8 hl8, hM8, (zP_mo (zp_image hP _) (by omega))⟩

set_option maxHeartbeats 4000000 in
set_option maxRecDepth 100000 in
theorem lz_back {l : Launch} {R : wr_TR} (i n : Nat) (I : wr_TI) (L : wr_TL) (hn : n ≤ 3072) (hI : I 1000300 0 = nI n) (hi : i + 6 ≤ n) (hW : zW i I L R) (Q : wr_TQ) (hc : ∀ J K R', zW (i + 6) J K R' → wr_V l 65 mL_law 1009 [some (.ref 1000300), some (.ref 0), some (.ref 55), some (.int (nI i))] [] SH J K R' 0 0 Q) : wr_V l 65 mL_law 940 [some (.ref 1000300), some (.ref 0), some (.ref 55), some (.int (nI i))] [] SH I L R 0 0 Q := by
  obtain ⟨t, T, fa, g, u, F, m, tm, hb, B, hK, hM, hP⟩ := hW
  have ok : gOK g := rgV_ok hK.2.2.2.2.1
  refine wv_aload_n dL_law_940 rfl ?_
  refine wv_aload_n dL_law_941 rfl ?_
  refine wv_iload_n dL_law_942 rfl ?_
  refine wv_iconst (v := 1) dL_law_943 (by decide) ?_
  refine wv_iadd dL_law_944 ?_
  rw [show nI i + 1 = nI (i + 1) from nI_add i 1]
  refine wv_sld (i := (i + 1)) hn hI (by omega) dL_law_945 ?_
  refine wv_v1 oX7_back kL_131 dL_law_946 (by omega) (by first | assumption | rfl) ⟨rfl, by decide⟩ (Nat.le_of_ble_eq_true rfl) (Nat.le_of_ble_eq_true rfl) (zc_back hK _) (fun v9 s9 J9 L9 R9 h9 => ?_)
  obtain ⟨rfl, rfl, hi9, hl9, t9, hK9⟩ := h9
  have hs9 : J9 1000300 = I 1000300 := hi9 _ (by omega)
  have hI : J9 1000300 0 = nI n := by rw [hs9]; exact hI
  have hM9 := zM_c hM hi9 hl9
  refine wv_aload_n dL_law_949 rfl ?_
  refine wv_aload_n dL_law_950 rfl ?_
  refine wv_iload_n dL_law_951 rfl ?_
  refine wv_iconst (v := 1) dL_law_952 (by decide) ?_
  refine wv_iadd dL_law_953 ?_
  rw [show nI i + 1 = nI (i + 1) from nI_add i 1]
  refine wv_sld (i := (i + 1)) hn hI (by omega) dL_law_954 ?_
  rw [hs9]
  refine wv_v1 oX8_back kL_134 dL_law_955 (by omega) (by first | assumption | rfl) ⟨rfl, by decide⟩ (Nat.le_of_ble_eq_true rfl) (Nat.le_of_ble_eq_true rfl) (zm_back hK9.1 ok hM9 _) (fun v8 s8 J8 L8 R8 h8 => ?_)
  obtain ⟨rfl, rfl, rfl, hi8, hl8, hM8⟩ := h8
  refine wv_icmp_eq (tgt := 1009) dL_law_958 (by decide) (fun h958 => ?_) (fun h958 => absurd rfl h958)
  exact hc J8 L8 _ ⟨t9, _, _, _, _, _, _, _, _, _, zK_m hK9 hi8 hl8, hM8, (zP_mo (zp_back hP _) (by omega))⟩

set_option maxHeartbeats 4000000 in
set_option maxRecDepth 100000 in
theorem lz_seed {l : Launch} {R : wr_TR} (i n : Nat) (I : wr_TI) (L : wr_TL) (hn : n ≤ 3072) (hI : I 1000300 0 = nI n) (hi : i + 6 ≤ n) (hW : zW i I L R) (Q : wr_TQ) (hc : ∀ J K R', zW (i + 6) J K R' → wr_V l 65 mL_law 1009 [some (.ref 1000300), some (.ref 0), some (.ref 55), some (.int (nI i))] [] SH J K R' 0 0 Q) : wr_V l 65 mL_law 963 [some (.ref 1000300), some (.ref 0), some (.ref 55), some (.int (nI i))] [] SH I L R 0 0 Q := by
  obtain ⟨t, T, fa, g, u, F, m, tm, hb, B, hK, hM, hP⟩ := hW
  have ok : gOK g := rgV_ok hK.2.2.2.2.1
  refine wv_aload_n dL_law_963 rfl ?_
  refine wv_aload_n dL_law_964 rfl ?_
  refine wv_iload_n dL_law_965 rfl ?_
  refine wv_iconst (v := 1) dL_law_966 (by decide) ?_
  refine wv_iadd dL_law_967 ?_
  rw [show nI i + 1 = nI (i + 1) from nI_add i 1]
  refine wv_sld (i := (i + 1)) hn hI (by omega) dL_law_968 ?_
  refine wv_v1 oX7_seed kL_135 dL_law_969 (by omega) (by first | assumption | rfl) ⟨rfl, by decide⟩ (Nat.le_of_ble_eq_true rfl) (Nat.le_of_ble_eq_true rfl) (zc_seed hK _) (fun v9 s9 J9 L9 R9 h9 => ?_)
  obtain ⟨rfl, rfl, hi9, hl9, t9, hK9⟩ := h9
  have hs9 : J9 1000300 = I 1000300 := hi9 _ (by omega)
  have hI : J9 1000300 0 = nI n := by rw [hs9]; exact hI
  have hM9 := zM_c hM hi9 hl9
  refine wv_aload_n dL_law_972 rfl ?_
  refine wv_aload_n dL_law_973 rfl ?_
  refine wv_iload_n dL_law_974 rfl ?_
  refine wv_iconst (v := 1) dL_law_975 (by decide) ?_
  refine wv_iadd dL_law_976 ?_
  rw [show nI i + 1 = nI (i + 1) from nI_add i 1]
  refine wv_sld (i := (i + 1)) hn hI (by omega) dL_law_977 ?_
  rw [hs9]
  refine wv_v1 oX8_seed kL_138 dL_law_978 (by omega) (by first | assumption | rfl) ⟨rfl, by decide⟩ (Nat.le_of_ble_eq_true rfl) (Nat.le_of_ble_eq_true rfl) (zm_seed hK9.1 ok hM9 _) (fun v8 s8 J8 L8 R8 h8 => ?_)
  obtain ⟨rfl, rfl, rfl, hi8, hl8, hM8⟩ := h8
  refine wv_icmp_eq (tgt := 1009) dL_law_981 (by decide) (fun h981 => ?_) (fun h981 => absurd rfl h981)
  exact hc J8 L8 _ ⟨t9, _, _, _, _, _, _, _, _, _, zK_m hK9 hi8 hl8, hM8, (zP_mo hP (by omega))⟩

set_option maxHeartbeats 4000000 in
set_option maxRecDepth 100000 in
theorem lz_about {l : Launch} {R : wr_TR} (i n : Nat) (I : wr_TI) (L : wr_TL) (hn : n ≤ 3072) (hI : I 1000300 0 = nI n) (hi : i + 6 ≤ n) (hW : zW i I L R) (Q : wr_TQ) (hc : ∀ J K R', zW (i + 6) J K R' → wr_V l 65 mL_law 1009 [some (.ref 1000300), some (.ref 0), some (.ref 55), some (.int (nI i))] [] SH J K R' 0 0 Q) : wr_V l 65 mL_law 986 [some (.ref 1000300), some (.ref 0), some (.ref 55), some (.int (nI i))] [] SH I L R 0 0 Q := by
  obtain ⟨t, T, fa, g, u, F, m, tm, hb, B, hK, hM, hP⟩ := hW
  have ok : gOK g := rgV_ok hK.2.2.2.2.1
  refine wv_aload_n dL_law_986 rfl ?_
  refine wv_aload_n dL_law_987 rfl ?_
  refine wv_iload_n dL_law_988 rfl ?_
  refine wv_iconst (v := 1) dL_law_989 (by decide) ?_
  refine wv_iadd dL_law_990 ?_
  rw [show nI i + 1 = nI (i + 1) from nI_add i 1]
  refine wv_sld (i := (i + 1)) hn hI (by omega) dL_law_991 ?_
  refine wv_v1 oX7_about kL_139 dL_law_992 (by omega) (by first | assumption | rfl) ⟨rfl, by decide⟩ (Nat.le_of_ble_eq_true rfl) (Nat.le_of_ble_eq_true rfl) (zc_about hK _) (fun v9 s9 J9 L9 R9 h9 => ?_)
  obtain ⟨rfl, rfl, hi9, hl9, t9, hK9⟩ := h9
  have hs9 : J9 1000300 = I 1000300 := hi9 _ (by omega)
  have hI : J9 1000300 0 = nI n := by rw [hs9]; exact hI
  have hM9 := zM_c hM hi9 hl9
  refine wv_aload_n dL_law_995 rfl ?_
  refine wv_aload_n dL_law_996 rfl ?_
  refine wv_iload_n dL_law_997 rfl ?_
  refine wv_iconst (v := 1) dL_law_998 (by decide) ?_
  refine wv_iadd dL_law_999 ?_
  rw [show nI i + 1 = nI (i + 1) from nI_add i 1]
  refine wv_sld (i := (i + 1)) hn hI (by omega) dL_law_1000 ?_
  rw [hs9]
  refine wv_v1 oX8_about kL_142 dL_law_1001 (by omega) (by first | assumption | rfl) ⟨rfl, by decide⟩ (Nat.le_of_ble_eq_true rfl) (Nat.le_of_ble_eq_true rfl) (zm_about hK9.1 ok hM9 _) (fun v8 s8 J8 L8 R8 h8 => ?_)
  obtain ⟨rfl, rfl, rfl, hi8, hl8, hM8⟩ := h8
  refine wv_icmp_eq (tgt := 1009) dL_law_1004 (by decide) (fun h1004 => ?_) (fun h1004 => absurd rfl h1004)
  exact hc J8 L8 _ ⟨t9, _, _, _, _, _, _, _, _, _, zK_m hK9 hi8 hl8, hM8, (zP_mo hP (by omega))⟩

set_option maxHeartbeats 4000000 in
set_option maxRecDepth 100000 in
theorem lz_loop {l : Launch} (Q : wr_TQ) (hQ : ∀ I L R, Q (some (.int 1)) SH I L R) : ∀ (k i : Nat) (I : wr_TI) (L : wr_TL) (R : wr_TR), i ≤ 4000 → 4000 ≤ i + k → zW i I L R → wr_V l 65 mL_law 18 [some (.ref 1000300), some (.ref 0), some (.ref 55), some (.int (nI i))] [] SH I L R 0 0 Q := by
  intro k
  induction k with
  | zero =>
    intro i I L R hi hk hW
    have hx : ∀ n, n ≤ 3072 → nI n - 6 < nI i := fun n hn => by
      rw [Int32.lt_iff_toInt_lt, nI_m6 hn, nI_toInt (by omega)]
      omega
    refine wv_iload_n dL_law_18 rfl ?_
    refine wv_aload_n dL_law_19 rfl ?_
    refine wv_slen dL_law_20 (fun n hn hI => ?_)
    refine wv_bipush (v := 6) dL_law_21 (by decide) ?_
    refine wv_isub dL_law_23 ?_
    refine wv_icmp_gt (tgt := 1015) dL_law_24 (by decide) (fun h24 => ?_) (fun h24 => absurd (hx n hn) h24)
    refine wv_iconst (v := 1) dL_law_1015 (by decide) ?_
    refine wv_zret rfl rfl dL_law_1016 ?_
    exact hQ I L R
  | succ k ih =>
    intro i I L R hi hk hW
    refine wv_iload_n dL_law_18 rfl ?_
    refine wv_aload_n dL_law_19 rfl ?_
    refine wv_slen dL_law_20 (fun n hn hI => ?_)
    refine wv_bipush (v := 6) dL_law_21 (by decide) ?_
    refine wv_isub dL_law_23 ?_
    refine wv_icmp_gt (tgt := 1015) dL_law_24 (by decide) (fun h24 => ?_) (fun h24 => ?_)
    · refine wv_iconst (v := 1) dL_law_1015 (by decide) ?_
      refine wv_zret rfl rfl dL_law_1016 ?_
      exact hQ I L R
    · have hi6 : i + 6 ≤ n := by
        have h24 := Int32.not_lt.mp h24
        rw [Int32.le_iff_toInt_le, nI_m6 hn, nI_toInt (by omega)] at h24
        omega
      have hc : ∀ J K R', zW (i + 6) J K R' → wr_V l 65 mL_law 1009 [some (.ref 1000300), some (.ref 0), some (.ref 55), some (.int (nI i))] [] SH J K R' 0 0 Q := by
        intro J K R' hJ
        refine wv_iinc (v := nI (i + 6)) dL_law_1009 rfl (nI_add i 6) (by decide) ?_
        refine wv_goto (tgt := 18) dL_law_1012 (by decide) ?_
        exact wv_le (by simp [wr_leq, wr_s1, wr_s2, wr_wide]) (ih (i + 6) J K R' (by omega) (by omega) hJ)
      have h33 : wr_V l 65 mL_law 33 [some (.ref 1000300), some (.ref 0), some (.ref 55), some (.int (nI i))] [.int (I 1000300 (i + 0 + 1) &&& 31)] SH I L R 0 0 Q := by
        by_cases v0 : I 1000300 (i + 0 + 1) &&& 31 = 0
        · rw [v0]
          exact wv_tableIn (off := 135) (tgt := 168) dL_law_33 (by decide) (by decide) (by decide) (by decide) (lz_feed i n I L hn hI hi6 hW Q hc)
        by_cases v1 : I 1000300 (i + 0 + 1) &&& 31 = 1
        · rw [v1]
          exact wv_tableIn (off := 198) (tgt := 231) dL_law_33 (by decide) (by decide) (by decide) (by decide) (lz_end i n I L hn hI hi6 hW Q hc)
        by_cases v2 : I 1000300 (i + 0 + 1) &&& 31 = 2
        · rw [v2]
          exact wv_tableIn (off := 221) (tgt := 254) dL_law_33 (by decide) (by decide) (by decide) (by decide) (lz_ring i n I L hn hI hi6 hW Q hc)
        by_cases v3 : I 1000300 (i + 0 + 1) &&& 31 = 3
        · rw [v3]
          exact wv_tableIn (off := 234) (tgt := 267) dL_law_33 (by decide) (by decide) (by decide) (by decide) (lz_fault i n I L hn hI hi6 hW Q hc)
        by_cases v4 : I 1000300 (i + 0 + 1) &&& 31 = 4
        · rw [v4]
          exact wv_tableIn (off := 257) (tgt := 290) dL_law_33 (by decide) (by decide) (by decide) (by decide) (lz_tryNow i n I L hn hI hi6 hW Q hc)
        by_cases v5 : I 1000300 (i + 0 + 1) &&& 31 = 5
        · rw [v5]
          exact wv_tableIn (off := 270) (tgt := 303) dL_law_33 (by decide) (by decide) (by decide) (by decide) (lz_run i n I L hn hI hi6 hW Q hc)
        by_cases v6 : I 1000300 (i + 0 + 1) &&& 31 = 6
        · rw [v6]
          exact wv_tableIn (off := 293) (tgt := 326) dL_law_33 (by decide) (by decide) (by decide) (by decide) (lz_seat i n I L hn hI hi6 hW Q hc)
        by_cases v7 : I 1000300 (i + 0 + 1) &&& 31 = 7
        · rw [v7]
          exact wv_tableIn (off := 326) (tgt := 359) dL_law_33 (by decide) (by decide) (by decide) (by decide) (lz_would i n I L hn hI hi6 hW Q hc)
        by_cases v8 : I 1000300 (i + 0 + 1) &&& 31 = 8
        · rw [v8]
          exact wv_tableIn (off := 339) (tgt := 372) dL_law_33 (by decide) (by decide) (by decide) (by decide) (lz_way i n I L hn hI hi6 hW Q hc)
        by_cases v9 : I 1000300 (i + 0 + 1) &&& 31 = 9
        · rw [v9]
          exact wv_tableIn (off := 362) (tgt := 395) dL_law_33 (by decide) (by decide) (by decide) (by decide) (lz_wide i n I L hn hI hi6 hW Q hc)
        by_cases v10 : I 1000300 (i + 0 + 1) &&& 31 = 10
        · rw [v10]
          exact wv_tableIn (off := 375) (tgt := 408) dL_law_33 (by decide) (by decide) (by decide) (by decide) (lz_waves i n I L hn hI hi6 hW Q hc)
        by_cases v11 : I 1000300 (i + 0 + 1) &&& 31 = 11
        · rw [v11]
          exact wv_tableIn (off := 388) (tgt := 421) dL_law_33 (by decide) (by decide) (by decide) (by decide) (lz_till i n I L hn hI hi6 hW Q hc)
        by_cases v12 : I 1000300 (i + 0 + 1) &&& 31 = 12
        · rw [v12]
          exact wv_tableIn (off := 421) (tgt := 454) dL_law_33 (by decide) (by decide) (by decide) (by decide) (lz_dies i n I L hn hI hi6 hW Q hc)
        by_cases v13 : I 1000300 (i + 0 + 1) &&& 31 = 13
        · rw [v13]
          exact wv_tableIn (off := 434) (tgt := 467) dL_law_33 (by decide) (by decide) (by decide) (by decide) (lz_lives i n I L hn hI hi6 hW Q hc)
        by_cases v14 : I 1000300 (i + 0 + 1) &&& 31 = 14
        · rw [v14]
          exact wv_tableIn (off := 467) (tgt := 500) dL_law_33 (by decide) (by decide) (by decide) (by decide) (lz_fewest i n I L hn hI hi6 hW Q hc)
        by_cases v15 : I 1000300 (i + 0 + 1) &&& 31 = 15
        · rw [v15]
          exact wv_tableIn (off := 490) (tgt := 523) dL_law_33 (by decide) (by decide) (by decide) (by decide) (lz_best i n I L hn hI hi6 hW Q hc)
        by_cases v16 : I 1000300 (i + 0 + 1) &&& 31 = 16
        · rw [v16]
          exact wv_tableIn (off := 523) (tgt := 556) dL_law_33 (by decide) (by decide) (by decide) (by decide) (lz_jumps i n I L hn hI hi6 hW Q hc)
        by_cases v17 : I 1000300 (i + 0 + 1) &&& 31 = 17
        · rw [v17]
          exact wv_tableIn (off := 566) (tgt := 599) dL_law_33 (by decide) (by decide) (by decide) (by decide) (lz_meet i n I L hn hI hi6 hW Q hc)
        by_cases v18 : I 1000300 (i + 0 + 1) &&& 31 = 18
        · rw [v18]
          exact wv_tableIn (off := 609) (tgt := 642) dL_law_33 (by decide) (by decide) (by decide) (by decide) (lz_odds i n I L hn hI hi6 hW Q hc)
        by_cases v19 : I 1000300 (i + 0 + 1) &&& 31 = 19
        · rw [v19]
          exact wv_tableIn (off := 643) (tgt := 676) dL_law_33 (by decide) (by decide) (by decide) (by decide) (lz_film i n I L hn hI hi6 hW Q hc)
        by_cases v20 : I 1000300 (i + 0 + 1) &&& 31 = 20
        · rw [v20]
          exact wv_tableIn (off := 706) (tgt := 739) dL_law_33 (by decide) (by decide) (by decide) (by decide) (lz_untell i n I L hn hI hi6 hW Q hc)
        by_cases v21 : I 1000300 (i + 0 + 1) &&& 31 = 21
        · rw [v21]
          exact wv_tableIn (off := 729) (tgt := 762) dL_law_33 (by decide) (by decide) (by decide) (by decide) (lz_later i n I L hn hI hi6 hW Q hc)
        by_cases v22 : I 1000300 (i + 0 + 1) &&& 31 = 22
        · rw [v22]
          exact wv_tableIn (off := 752) (tgt := 785) dL_law_33 (by decide) (by decide) (by decide) (by decide) (lz_fits i n I L hn hI hi6 hW Q hc)
        by_cases v23 : I 1000300 (i + 0 + 1) &&& 31 = 23
        · rw [v23]
          exact wv_tableIn (off := 775) (tgt := 808) dL_law_33 (by decide) (by decide) (by decide) (by decide) (lz_fit i n I L hn hI hi6 hW Q hc)
        by_cases v24 : I 1000300 (i + 0 + 1) &&& 31 = 24
        · rw [v24]
          exact wv_tableIn (off := 808) (tgt := 841) dL_law_33 (by decide) (by decide) (by decide) (by decide) (lz_sure i n I L hn hI hi6 hW Q hc)
        by_cases v25 : I 1000300 (i + 0 + 1) &&& 31 = 25
        · rw [v25]
          exact wv_tableIn (off := 851) (tgt := 884) dL_law_33 (by decide) (by decide) (by decide) (by decide) (lz_same i n I L hn hI hi6 hW Q hc)
        by_cases v26 : I 1000300 (i + 0 + 1) &&& 31 = 26
        · rw [v26]
          exact wv_tableIn (off := 884) (tgt := 917) dL_law_33 (by decide) (by decide) (by decide) (by decide) (lz_image i n I L hn hI hi6 hW Q hc)
        by_cases v27 : I 1000300 (i + 0 + 1) &&& 31 = 27
        · rw [v27]
          exact wv_tableIn (off := 907) (tgt := 940) dL_law_33 (by decide) (by decide) (by decide) (by decide) (lz_back i n I L hn hI hi6 hW Q hc)
        by_cases v28 : I 1000300 (i + 0 + 1) &&& 31 = 28
        · rw [v28]
          exact wv_tableIn (off := 930) (tgt := 963) dL_law_33 (by decide) (by decide) (by decide) (by decide) (lz_seed i n I L hn hI hi6 hW Q hc)
        by_cases v29 : I 1000300 (i + 0 + 1) &&& 31 = 29
        · rw [v29]
          exact wv_tableIn (off := 953) (tgt := 986) dL_law_33 (by decide) (by decide) (by decide) (by decide) (lz_about i n I L hn hI hi6 hW Q hc)
        have q : ¬ (0 ≤ (I 1000300 (i + 0 + 1) &&& 31).toInt ∧ (I 1000300 (i + 0 + 1) &&& 31).toInt ≤ 29) := by
          have q0 : (I 1000300 (i + 0 + 1) &&& 31).toInt ≠ 0 := wr_ne v0
          have q1 : (I 1000300 (i + 0 + 1) &&& 31).toInt ≠ 1 := wr_ne v1
          have q2 : (I 1000300 (i + 0 + 1) &&& 31).toInt ≠ 2 := wr_ne v2
          have q3 : (I 1000300 (i + 0 + 1) &&& 31).toInt ≠ 3 := wr_ne v3
          have q4 : (I 1000300 (i + 0 + 1) &&& 31).toInt ≠ 4 := wr_ne v4
          have q5 : (I 1000300 (i + 0 + 1) &&& 31).toInt ≠ 5 := wr_ne v5
          have q6 : (I 1000300 (i + 0 + 1) &&& 31).toInt ≠ 6 := wr_ne v6
          have q7 : (I 1000300 (i + 0 + 1) &&& 31).toInt ≠ 7 := wr_ne v7
          have q8 : (I 1000300 (i + 0 + 1) &&& 31).toInt ≠ 8 := wr_ne v8
          have q9 : (I 1000300 (i + 0 + 1) &&& 31).toInt ≠ 9 := wr_ne v9
          have q10 : (I 1000300 (i + 0 + 1) &&& 31).toInt ≠ 10 := wr_ne v10
          have q11 : (I 1000300 (i + 0 + 1) &&& 31).toInt ≠ 11 := wr_ne v11
          have q12 : (I 1000300 (i + 0 + 1) &&& 31).toInt ≠ 12 := wr_ne v12
          have q13 : (I 1000300 (i + 0 + 1) &&& 31).toInt ≠ 13 := wr_ne v13
          have q14 : (I 1000300 (i + 0 + 1) &&& 31).toInt ≠ 14 := wr_ne v14
          have q15 : (I 1000300 (i + 0 + 1) &&& 31).toInt ≠ 15 := wr_ne v15
          have q16 : (I 1000300 (i + 0 + 1) &&& 31).toInt ≠ 16 := wr_ne v16
          have q17 : (I 1000300 (i + 0 + 1) &&& 31).toInt ≠ 17 := wr_ne v17
          have q18 : (I 1000300 (i + 0 + 1) &&& 31).toInt ≠ 18 := wr_ne v18
          have q19 : (I 1000300 (i + 0 + 1) &&& 31).toInt ≠ 19 := wr_ne v19
          have q20 : (I 1000300 (i + 0 + 1) &&& 31).toInt ≠ 20 := wr_ne v20
          have q21 : (I 1000300 (i + 0 + 1) &&& 31).toInt ≠ 21 := wr_ne v21
          have q22 : (I 1000300 (i + 0 + 1) &&& 31).toInt ≠ 22 := wr_ne v22
          have q23 : (I 1000300 (i + 0 + 1) &&& 31).toInt ≠ 23 := wr_ne v23
          have q24 : (I 1000300 (i + 0 + 1) &&& 31).toInt ≠ 24 := wr_ne v24
          have q25 : (I 1000300 (i + 0 + 1) &&& 31).toInt ≠ 25 := wr_ne v25
          have q26 : (I 1000300 (i + 0 + 1) &&& 31).toInt ≠ 26 := wr_ne v26
          have q27 : (I 1000300 (i + 0 + 1) &&& 31).toInt ≠ 27 := wr_ne v27
          have q28 : (I 1000300 (i + 0 + 1) &&& 31).toInt ≠ 28 := wr_ne v28
          have q29 : (I 1000300 (i + 0 + 1) &&& 31).toInt ≠ 29 := wr_ne v29
          omega
        refine wv_tableOut (tgt := 1009) dL_law_33 (by omega) (by decide) ?_
        exact hc I L R (zW_mo hW (by omega))
      refine wv_aload_n dL_law_27 rfl ?_
      refine wv_iload_n dL_law_28 rfl ?_
      refine wv_sld (i := i + 0) hn hI (by omega) dL_law_29 ?_
      refine wv_bipush (v := 31) dL_law_30 (by decide) ?_
      refine wv_iand dL_law_32 ?_
      exact h33
