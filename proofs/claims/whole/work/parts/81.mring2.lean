/-! the model: ring, its end and the whole -/
def fr0 (I J : wr_TI) : Prop := (∀ b, b < 55 ∨ b = 56 ∨ b = 82 → J b = I b) ∧ J 55 59 = I 55 59 ∧ J 55 70 = I 55 70 ∧ J 55 1 = 0
theorem fr0_e {I J J' : wr_TI} (h : fr0 I J) (hb : ∀ b, b < 55 ∨ b = 56 ∨ b = 82 → J' b = J b) (h1 : J' 55 59 = J 55 59) (h2 : J' 55 70 = J 55 70) (h3 : J' 55 1 = J 55 1) : fr0 I J' := ⟨fun b q => (hb b q).trans (h.1 b q), h1.trans h.2.1, h2.trans h.2.2.1, h3.trans h.2.2.2⟩
def mrQ (I : wr_TI) (L : wr_TL) (R : wr_TR) (r : XR) : wr_TQ := fun v s' I' L' R' => s' = SH ∧ R' = R ∧ fr0 I I' ∧ (∀ b, b ≠ 55 → L' b = L b) ∧ match r with
  | .inl s => v = some (.int (nI (gN s.2.1))) ∧ mgV I' s.2.1 ∧ I' 55 46 = nI s.2.2.1 ∧ mcF I' (S0 s.2.1, (fun _ => 0), I 55 59) ∧ I' 55 69 = 0 ∧ (∀ b, b < 3 → I' 93 b = 0) ∧ I' 55 2 = 0 ∧ I' 55 3 = -1 ∧ gLn s.2.1 ≤ 259
  | .inr e => v = some (.int (-1)) ∧ mfl I' e ∧ (∀ b, xb b = false → I' b = I b) ∧ ∀ k, xk k = false → k ≠ 1 → k ≠ 5 → I' 55 k = I 55 k
theorem gp_b {b : Bool} : gp (bI b) = if b = true then 40 else 0 := by cases b <;> rfl
def C0p (c : Nat → Int32) : (Int32 × Int32 × Nat × Int32) × (Nat → Int32) × Nat := ((2, 4, 2, 0), (fun e => if e = 0 then 10000 else if e = 1 then 0 else if e = 2 then 20004 else c e), 3)
theorem mlR_p {c W N : Nat → Int32} (h0 : W 0 = 1) (h1 : W 1 = 0) (h2 : W 2 = 25) (h3 : N 1 = 0) : mlR (C0p c).2.1 3 W N := by
  intro k hk q hq hq2
  rcases (show k = 0 ∨ k = 1 ∨ k = 2 by omega) with rfl | rfl | rfl
  · have e : nI q = nI 10000 := hq.symm.trans (show (10000 : Int32) = nI 10000 by decide +kernel)
    have e := (nI_eq (by omega) (by omega)).mp e
    subst e
    exact ⟨h0.trans (by decide +kernel), fun z => by omega⟩
  · have e : nI q = nI 0 := hq.symm.trans (show (0 : Int32) = nI 0 by decide +kernel)
    have e := (nI_eq (by omega) (by omega)).mp e
    subst e
    exact ⟨h1.trans (by decide +kernel), fun _ => h3.trans (by decide +kernel)⟩
  · have e : nI q = nI 20004 := hq.symm.trans (show (20004 : Int32) = nI 20004 by decide +kernel)
    have e := (nI_eq (by omega) (by omega)).mp e
    subst e
    exact ⟨h2.trans (by decide +kernel), fun z => by omega⟩
theorem mlR_e {c W N W' N' : Nat → Int32} {n : Nat} (h : mlR c n W N) (hw : ∀ k, k < n → W' k = W k ∧ N' k = N k) : mlR c n W' N' := fun k hk q hq hq2 => by rw [(hw k hk).1, (hw k hk).2]; exact h k hk q hq hq2
set_option maxHeartbeats 4000000 in
set_option maxRecDepth 100000 in
theorem x_rgA {l : Launch} {R : wr_TR} (hR : wr_RC R) (I : wr_TI) (L K : wr_TL) (s : XS) (hK : ∀ b, b ≠ 55 → K b = L b) (hn : gLn s.2.1 ≤ 259) (J : wr_TI) (hg : mgV J s.2.1) (hu : J 55 46 = nI s.2.2.1) (h2 : J 55 2 = 0) (h3 : J 55 3 = -1) (hf : fr0 I J) : wr_V l 6 mX8_ring 343 [some (.ref 55), none] [] SH J K R 0 0 (mrQ I L R (.inl s)) := by
  refine wv_aload_n dX8_ring_343 rfl ?_
  refine wv_v0 oX8_freshen kX8_157 dX8_ring_344 (by omega) (by first | assumption | rfl) ⟨rfl, by decide⟩ (Nat.le_of_ble_eq_true rfl) (Nat.le_of_ble_eq_true rfl) (x_fresh hR) (fun v9 s9 J9 L9 R9 h9 => ?_)
  obtain ⟨rfl, rfl, rfl, rfl, a1, a2, a3, a4, a5, a6⟩ := h9
  refine wv_aload_n dX8_ring_347 rfl ?_
  refine wv_iconst (v := 0) dX8_ring_348 (by decide) ?_
  refine wv_putI fX8_378 dX8_ring_349 rfl rfl rfl rfl (by first | assumption | rfl) ?_
  refine wv_iconst (v := nI 0) dX8_ring_352 rfl ?_
  refine wv_istore_k (i := 1) dX8_ring_353 rfl (by decide) ?_
  refine wv_le (by simp [wr_leq, wr_s1, wr_s2, wr_wide]) (x_rg5 hR _ _ (wr_uI J9 55 69 0) (fun J5 b1 b2 => ?_) 3 0 _ (by omega) (fun x hx => by omega) (fun _ _ => rfl))
  have e55 : ∀ k, k ≠ 69 → k ≠ 57 → k ≠ 58 → J5 55 k = J 55 k := fun k k1 k2 k3 => by rw [b2 55 (by omega), wr_uI_nk k1, a6 k k2 k3]
  have eb : ∀ b, b ≠ 55 → b ≠ 75 → b ≠ 76 → b ≠ 80 → b ≠ 93 → J5 b = J b := fun b q1 q2 q3 q4 q5 => by rw [b2 b q5, wr_uI_ne q1, a5 b q1 q2 q3 q4]
  have e9 : ∀ b, b ≠ 55 → b ≠ 93 → J5 b = J9 b := fun b q1 q2 => by rw [b2 b q2, wr_uI_ne q1]
  refine wv_aload_n dX8_ring_372 rfl ?_
  refine wv_getI fX8_151 dX8_ring_373 rfl (by first | assumption | rfl) ?_
  rw [e55 28 (by omega) (by omega) (by omega), hg.1]
  refine wv_iret rfl dX8_ring_376 ?_
  refine ⟨rfl, rfl, fr0_e hf (fun b q => eb b (by omega) (by omega) (by omega) (by omega) (by omega)) (e55 59 (by omega) (by omega) (by omega)) (e55 70 (by omega) (by omega) (by omega)) (e55 1 (by omega) (by omega) (by omega)), hK, rfl, ?_, ?_, ⟨⟨?_, ?_, ?_, ?_⟩, ?_, ?_⟩, ?_, b1, ?_, ?_, hn⟩
  · exact mgV_fr hg (fun k hk => e55 k (by omega) (by omega) (by omega)) (fun a ha => eb a (by omega) (by omega) (by omega) (by omega) (by omega))
  · rw [e55 46 (by omega) (by omega) (by omega)]; exact hu
  · intro q hq
    rw [e9 75 (by omega) (by omega), (a1 q hq).1, hg.2.1 q hq, gp_b]; rfl
  · intro q hq
    rw [e9 76 (by omega) (by omega), (a1 q hq).2]; rfl
  · rw [b2 55 (by omega), wr_uI_nk (by omega), a3]; rfl
  · rw [b2 55 (by omega), wr_uI_nk (by omega), a4]; rfl
  · intro q hq
    rw [e9 80 (by omega) (by omega), a2 q hq]
  · rw [e55 59 (by omega) (by omega) (by omega)]; exact hf.2.1
  · rw [b2 55 (by omega)]; simp [wr_uI]
  · rw [e55 2 (by omega) (by omega) (by omega)]; exact h2
  · rw [e55 3 (by omega) (by omega) (by omega)]; exact h3
  

set_option maxHeartbeats 4000000 in
set_option maxRecDepth 100000 in
theorem x_rgB {l : Launch} {R : wr_TR} (hR : wr_RC R) (I : wr_TI) (L K : wr_TL) (T : TP) (c : Nat → Int32) (s : XS) (hK : ∀ b, b ≠ 55 → K b = L b) (J0 : wr_TI) (hV : mxV J0 K T s) (hok : lOk (C0p c) s.2) (hf : fr0 I J0) (J : wr_TI) (hb : ∀ b, b ≠ 60 → b ≠ 61 → b ≠ 62 → b ≠ 66 → b ≠ 67 → b ≠ 68 → J b = J0 b) (hc : ∀ x, x < 40 → J 60 x = J0 57 x ∧ J 61 x = J0 58 x ∧ J 62 x = J0 59 x) (hd : ∀ x, x < 6 → J 66 x = J0 63 x ∧ J 67 x = J0 64 x ∧ J 68 x = J0 65 x) : wr_V l 6 mX8_ring 228 [some (.ref 55), none] [] SH J K R 0 0 (mrQ I L R (.inl s)) := by
  obtain ⟨g1, g2, g3, g4, g5, g6, g7, g8, g9, g10, g11⟩ := hV.2.2
  have h55 : J 55 = J0 55 := hb 55 (by omega) (by omega) (by omega) (by omega) (by omega) (by omega)
  have h2 : J 55 2 = 0 := by rw [h55]; exact hV.1.2.2.1
  have h3 : J 55 3 = -1 := by rw [h55]; exact hV.1.2.2.2.1
  have e22 : J 55 22 = nI (gN s.2.1) := by rw [h55]; exact g1
  have e23 : J 55 23 = nI s.2.1.2.1.2.2.2 := by rw [h55]; exact g4
  have hf1 : fr0 I J := fr0_e hf (fun b q => hb b (by omega) (by omega) (by omega) (by omega) (by omega) (by omega)) (by rw [h55]) (by rw [h55]) (by rw [h55])
  refine wv_aload_n dX8_ring_228 rfl ?_
  refine wv_aload_n dX8_ring_229 rfl ?_
  refine wv_getI fX8_316 dX8_ring_230 rfl (by first | assumption | rfl) ?_
  rw [e22]
  refine wv_putI fX8_151 dX8_ring_233 rfl rfl rfl rfl (by first | assumption | rfl) ?_
  refine wv_aload_n dX8_ring_236 rfl ?_
  refine wv_aload_n dX8_ring_237 rfl ?_
  refine wv_getI fX8_322 dX8_ring_238 rfl (by first | assumption | rfl) ?_
  rw [wr_uI_nk (by omega), e23]
  refine wv_putI fX8_375 dX8_ring_241 rfl rfl rfl rfl (by first | assumption | rfl) ?_
  refine wv_aload_n dX8_ring_244 rfl ?_
  refine wv_v0u oX8_plainLaw kX8_154 dX8_ring_245 (by omega) (by first | assumption | rfl) ⟨rfl, by decide⟩ (Nat.le_of_ble_eq_true rfl) (Nat.le_of_ble_eq_true rfl) (x_plain hR) ?_
  have p55 : ∀ k, k ≠ 28 → k ≠ 29 → k ≠ 30 → k ≠ 31 → k ≠ 32 → k ≠ 33 → k ≠ 44 → k ≠ 46 → plI (wr_uI (wr_uI J 55 28 (nI (gN s.2.1))) 55 29 (nI s.2.1.2.1.2.2.2)) 55 k = J0 55 k := fun k k1 k2 k3 k4 k5 k6 k7 k8 => by
    unfold plI
    rw [wr_uI_ne (by omega), wr_uI_ne (by omega), wr_uI_ne (by omega), wr_uI_ne (by omega), wr_uI_nk k7, wr_uI_nk k8, wr_uI_nk k6, wr_uI_nk k5, wr_uI_nk k4, wr_uI_nk k3, wr_uI_nk k2, wr_uI_nk k1, h55]
  have pb : ∀ b, b ≠ 55 → b ≠ 71 → b ≠ 72 → plI (wr_uI (wr_uI J 55 28 (nI (gN s.2.1))) 55 29 (nI s.2.1.2.1.2.2.2)) b = J b := fun b b1 b2 b3 => by
    unfold plI
    rw [wr_uI_ne b2, wr_uI_ne b3, wr_uI_ne b2, wr_uI_ne b2, wr_uI_ne b1, wr_uI_ne b1, wr_uI_ne b1, wr_uI_ne b1, wr_uI_ne b1, wr_uI_ne b1, wr_uI_ne b1, wr_uI_ne b1]
  have q28 : plI (wr_uI (wr_uI J 55 28 (nI (gN s.2.1))) 55 29 (nI s.2.1.2.1.2.2.2)) 55 28 = nI (gN s.2.1) := by simp [plI, wr_uI]
  have q29 : plI (wr_uI (wr_uI J 55 28 (nI (gN s.2.1))) 55 29 (nI s.2.1.2.1.2.2.2)) 55 29 = nI s.2.1.2.1.2.2.2 := by simp [plI, wr_uI]
  have q30 : plI (wr_uI (wr_uI J 55 28 (nI (gN s.2.1))) 55 29 (nI s.2.1.2.1.2.2.2)) 55 30 = 2 := by simp [plI, wr_uI]
  have q31 : plI (wr_uI (wr_uI J 55 28 (nI (gN s.2.1))) 55 29 (nI s.2.1.2.1.2.2.2)) 55 31 = 4 := by simp [plI, wr_uI]
  have q32 : plI (wr_uI (wr_uI J 55 28 (nI (gN s.2.1))) 55 29 (nI s.2.1.2.1.2.2.2)) 55 32 = 2 := by simp [plI, wr_uI]
  have q33 : plI (wr_uI (wr_uI J 55 28 (nI (gN s.2.1))) 55 29 (nI s.2.1.2.1.2.2.2)) 55 33 = 0 := by simp [plI, wr_uI]
  have q44 : plI (wr_uI (wr_uI J 55 28 (nI (gN s.2.1))) 55 29 (nI s.2.1.2.1.2.2.2)) 55 44 = 3 := by simp [plI, wr_uI]
  have q46 : plI (wr_uI (wr_uI J 55 28 (nI (gN s.2.1))) 55 29 (nI s.2.1.2.1.2.2.2)) 55 46 = 2 := by simp [plI, wr_uI]
  have w0 : plI (wr_uI (wr_uI J 55 28 (nI (gN s.2.1))) 55 29 (nI s.2.1.2.1.2.2.2)) 71 0 = 1 := by simp [plI, wr_uI]
  have w1 : plI (wr_uI (wr_uI J 55 28 (nI (gN s.2.1))) 55 29 (nI s.2.1.2.1.2.2.2)) 71 1 = 0 := by simp [plI, wr_uI]
  have w2 : plI (wr_uI (wr_uI J 55 28 (nI (gN s.2.1))) 55 29 (nI s.2.1.2.1.2.2.2)) 71 2 = 25 := by simp [plI, wr_uI]
  have w3 : plI (wr_uI (wr_uI J 55 28 (nI (gN s.2.1))) 55 29 (nI s.2.1.2.1.2.2.2)) 72 1 = 0 := by simp [plI, wr_uI]
  generalize plI (wr_uI (wr_uI J 55 28 (nI (gN s.2.1))) 55 29 (nI s.2.1.2.1.2.2.2)) = J2 at *
  have hf2 : fr0 I J2 := fr0_e hf1 (fun b q => pb b (by omega) (by omega) (by omega)) (by rw [p55 59 (by omega) (by omega) (by omega) (by omega) (by omega) (by omega) (by omega) (by omega), h55]) (by rw [p55 70 (by omega) (by omega) (by omega) (by omega) (by omega) (by omega) (by omega) (by omega), h55]) (by rw [p55 1 (by omega) (by omega) (by omega) (by omega) (by omega) (by omega) (by omega) (by omega), h55])
  have m61 : ∀ q, q < 40 → J2 61 q = bI (gG s.2.1 q) := fun q hq => by rw [pb 61 (by omega) (by omega) (by omega), (hc q hq).2.1]; exact (g3 q hq).1
  have m60 : ∀ q, q < 40 → J2 60 q = bI (gD s.2.1 q) := fun q hq => by rw [pb 60 (by omega) (by omega) (by omega), (hc q hq).1]; exact (g3 q hq).2.1
  have m62 : ∀ q, q < 40 → J2 62 q = bI (gF s.2.1 q) := fun q hq => by rw [pb 62 (by omega) (by omega) (by omega), (hc q hq).2.2]; exact (g3 q hq).2.2
  have m66 : ∀ k, k < s.2.1.2.1.2.2.2 → J2 66 k = s.2.1.2.1.1 k ∧ J2 67 k = s.2.1.2.1.2.1 k ∧ J2 68 k = s.2.1.2.1.2.2.1 k := fun k hk => by
    obtain ⟨r1, r2, r3⟩ := hd k (by omega)
    rw [pb 66 (by omega) (by omega) (by omega), pb 67 (by omega) (by omega) (by omega), pb 68 (by omega) (by omega) (by omega), r1, r2, r3]
    exact g6 k hk
  have n2 : J2 55 2 = 0 := by rw [p55 2 (by omega) (by omega) (by omega) (by omega) (by omega) (by omega) (by omega) (by omega)]; exact hV.1.2.2.1
  have n3 : J2 55 3 = -1 := by rw [p55 3 (by omega) (by omega) (by omega) (by omega) (by omega) (by omega) (by omega) (by omega)]; exact hV.1.2.2.2.1
  have n36 : J2 55 36 = bI s.2.2.2.2.2 := by rw [p55 36 (by omega) (by omega) (by omega) (by omega) (by omega) (by omega) (by omega) (by omega)]; exact g9
  by_cases hl : s.2.2.2.2.2 = true
  · obtain ⟨l1, l2, l3, l4, l5, l6, l7, l8, l9⟩ := g11 hl
    have P24 := p55 24 (by omega) (by omega) (by omega) (by omega) (by omega) (by omega) (by omega) (by omega)
    have P25 := p55 25 (by omega) (by omega) (by omega) (by omega) (by omega) (by omega) (by omega) (by omega)
    have P26 := p55 26 (by omega) (by omega) (by omega) (by omega) (by omega) (by omega) (by omega) (by omega)
    have P27 := p55 27 (by omega) (by omega) (by omega) (by omega) (by omega) (by omega) (by omega) (by omega)
    have P43 := p55 43 (by omega) (by omega) (by omega) (by omega) (by omega) (by omega) (by omega) (by omega)
    have P45 := p55 45 (by omega) (by omega) (by omega) (by omega) (by omega) (by omega) (by omega) (by omega)
    refine wv_aload_n dX8_ring_248 rfl ?_
    refine wv_getI fX8_280 dX8_ring_249 rfl (by first | assumption | rfl) ?_
    refine wv_if_eq (tgt := 343) dX8_ring_252 (by decide) (fun h252 => absurd h252 (by rw [n36, hl]; decide)) (fun h252 => ?_)
    refine wv_aload_n dX8_ring_255 rfl ?_
    refine wv_aload_n dX8_ring_256 rfl ?_
    refine wv_getI fX8_290 dX8_ring_257 rfl (by first | assumption | rfl) ?_
    rw [P24, l1]
    refine wv_putI fX8_354 dX8_ring_260 rfl rfl rfl rfl (by first | assumption | rfl) ?_
    refine wv_aload_n dX8_ring_263 rfl ?_
    refine wv_aload_n dX8_ring_264 rfl ?_
    refine wv_getI fX8_295 dX8_ring_265 rfl (by first | assumption | rfl) ?_
    rw [wr_uI_nk (by omega), P25, l2]
    refine wv_putI fX8_357 dX8_ring_268 rfl rfl rfl rfl (by first | assumption | rfl) ?_
    refine wv_aload_n dX8_ring_271 rfl ?_
    refine wv_aload_n dX8_ring_272 rfl ?_
    refine wv_getI fX8_300 dX8_ring_273 rfl (by first | assumption | rfl) ?_
    rw [wr_uI_nk (by omega), wr_uI_nk (by omega), P26, l3]
    refine wv_putI fX8_360 dX8_ring_276 rfl rfl rfl rfl (by first | assumption | rfl) ?_
    refine wv_aload_n dX8_ring_279 rfl ?_
    refine wv_aload_n dX8_ring_280 rfl ?_
    refine wv_getI fX8_305 dX8_ring_281 rfl (by first | assumption | rfl) ?_
    rw [wr_uI_nk (by omega), wr_uI_nk (by omega), wr_uI_nk (by omega), P27, l4]
    refine wv_putI fX8_363 dX8_ring_284 rfl rfl rfl rfl (by first | assumption | rfl) ?_
    refine wv_aload_n dX8_ring_287 rfl ?_
    refine wv_aload_n dX8_ring_288 rfl ?_
    refine wv_getI fX8_260 dX8_ring_289 rfl (by first | assumption | rfl) ?_
    rw [wr_uI_nk (by omega), wr_uI_nk (by omega), wr_uI_nk (by omega), wr_uI_nk (by omega), P45, l7]
    refine wv_putI fX8_366 dX8_ring_292 rfl rfl rfl rfl (by first | assumption | rfl) ?_
    refine wv_aload_n dX8_ring_295 rfl ?_
    refine wv_aload_n dX8_ring_296 rfl ?_
    refine wv_getI fX8_221 dX8_ring_297 rfl (by first | assumption | rfl) ?_
    rw [wr_uI_nk (by omega), wr_uI_nk (by omega), wr_uI_nk (by omega), wr_uI_nk (by omega), wr_uI_nk (by omega), P43, l5]
    refine wv_putI fX8_369 dX8_ring_300 rfl rfl rfl rfl (by first | assumption | rfl) ?_
    refine wv_iconst (v := nI 0) dX8_ring_303 rfl ?_
    refine wv_istore_k (i := 1) dX8_ring_304 rfl (by decide) ?_
    have x55 : ∀ k, k ≠ 30 → k ≠ 31 → k ≠ 32 → k ≠ 33 → k ≠ 46 → k ≠ 44 → wr_uI (wr_uI (wr_uI (wr_uI (wr_uI (wr_uI J2 55 30 (gUp s.2.1)) 55 31 (gRe s.2.1)) 55 32 (nI (gSe s.2.1))) 55 33 (gSh s.2.1)) 55 46 (nI s.2.2.1)) 55 44 (nI (gLn s.2.1)) 55 k = J2 55 k := fun k k1 k2 k3 k4 k5 k6 => by rw [wr_uI_nk k6, wr_uI_nk k5, wr_uI_nk k4, wr_uI_nk k3, wr_uI_nk k2, wr_uI_nk k1]
    have xb' : ∀ b, b ≠ 55 → wr_uI (wr_uI (wr_uI (wr_uI (wr_uI (wr_uI J2 55 30 (gUp s.2.1)) 55 31 (gRe s.2.1)) 55 32 (nI (gSe s.2.1))) 55 33 (gSh s.2.1)) 55 46 (nI s.2.2.1)) 55 44 (nI (gLn s.2.1)) b = J2 b := fun b b1 => by rw [wr_uI_ne b1, wr_uI_ne b1, wr_uI_ne b1, wr_uI_ne b1, wr_uI_ne b1, wr_uI_ne b1]
    have y30 : wr_uI (wr_uI (wr_uI (wr_uI (wr_uI (wr_uI J2 55 30 (gUp s.2.1)) 55 31 (gRe s.2.1)) 55 32 (nI (gSe s.2.1))) 55 33 (gSh s.2.1)) 55 46 (nI s.2.2.1)) 55 44 (nI (gLn s.2.1)) 55 30 = gUp s.2.1 := by simp [wr_uI]
    have y31 : wr_uI (wr_uI (wr_uI (wr_uI (wr_uI (wr_uI J2 55 30 (gUp s.2.1)) 55 31 (gRe s.2.1)) 55 32 (nI (gSe s.2.1))) 55 33 (gSh s.2.1)) 55 46 (nI s.2.2.1)) 55 44 (nI (gLn s.2.1)) 55 31 = gRe s.2.1 := by simp [wr_uI]
    have y32 : wr_uI (wr_uI (wr_uI (wr_uI (wr_uI (wr_uI J2 55 30 (gUp s.2.1)) 55 31 (gRe s.2.1)) 55 32 (nI (gSe s.2.1))) 55 33 (gSh s.2.1)) 55 46 (nI s.2.2.1)) 55 44 (nI (gLn s.2.1)) 55 32 = nI (gSe s.2.1) := by simp [wr_uI]
    have y33 : wr_uI (wr_uI (wr_uI (wr_uI (wr_uI (wr_uI J2 55 30 (gUp s.2.1)) 55 31 (gRe s.2.1)) 55 32 (nI (gSe s.2.1))) 55 33 (gSh s.2.1)) 55 46 (nI s.2.2.1)) 55 44 (nI (gLn s.2.1)) 55 33 = gSh s.2.1 := by simp [wr_uI]
    have y46 : wr_uI (wr_uI (wr_uI (wr_uI (wr_uI (wr_uI J2 55 30 (gUp s.2.1)) 55 31 (gRe s.2.1)) 55 32 (nI (gSe s.2.1))) 55 33 (gSh s.2.1)) 55 46 (nI s.2.2.1)) 55 44 (nI (gLn s.2.1)) 55 46 = nI s.2.2.1 := by simp [wr_uI]
    have y44 : wr_uI (wr_uI (wr_uI (wr_uI (wr_uI (wr_uI J2 55 30 (gUp s.2.1)) 55 31 (gRe s.2.1)) 55 32 (nI (gSe s.2.1))) 55 33 (gSh s.2.1)) 55 46 (nI s.2.2.1)) 55 44 (nI (gLn s.2.1)) 55 44 = nI (gLn s.2.1) := by simp [wr_uI]
    generalize wr_uI (wr_uI (wr_uI (wr_uI (wr_uI (wr_uI J2 55 30 (gUp s.2.1)) 55 31 (gRe s.2.1)) 55 32 (nI (gSe s.2.1))) 55 33 (gSh s.2.1)) 55 46 (nI s.2.2.1)) 55 44 (nI (gLn s.2.1)) = J3 at *
    refine wv_le (by simp [wr_leq, wr_s1, wr_s2, wr_wide]) (x_rg4 hR K _ J3 (gLn s.2.1) l8 y44 (fun J4 c1 c2 => ?_) (gLn s.2.1) 0 J3 (by omega) (fun x hx => by omega) (fun _ _ _ => rfl))
    have c55 : J4 55 = J3 55 := c2 55 (by omega) (by omega)
    refine x_rgA hR I L K s hK l8 J4 ⟨?_, ?_, ?_, ?_, ?_, ?_, ?_, ?_, ?_, ?_, ?_, ?_⟩ (by rw [c55]; exact y46) (by rw [c55, x55 2 (by omega) (by omega) (by omega) (by omega) (by omega) (by omega)]; exact n2) (by rw [c55, x55 3 (by omega) (by omega) (by omega) (by omega) (by omega) (by omega)]; exact n3) (fr0_e hf2 (fun b q => by rw [c2 b (by omega) (by omega), xb' b (by omega)]) (by rw [c55, x55 59 (by omega) (by omega) (by omega) (by omega) (by omega) (by omega)]) (by rw [c55, x55 70 (by omega) (by omega) (by omega) (by omega) (by omega) (by omega)]) (by rw [c55, x55 1 (by omega) (by omega) (by omega) (by omega) (by omega) (by omega)]))
    · rw [c55, x55 28 (by omega) (by omega) (by omega) (by omega) (by omega) (by omega)]; exact q28
    · intro q hq; rw [c2 61 (by omega) (by omega), xb' 61 (by omega)]; exact m61 q hq
    · intro q hq; rw [c2 60 (by omega) (by omega), xb' 60 (by omega)]; exact m60 q hq
    · intro q hq; rw [c2 62 (by omega) (by omega), xb' 62 (by omega)]; exact m62 q hq
    · intro k hk; rw [c2 66 (by omega) (by omega), xb' 66 (by omega), c2 67 (by omega) (by omega), xb' 67 (by omega), c2 68 (by omega) (by omega), xb' 68 (by omega)]; exact m66 k hk
    · rw [c55, x55 29 (by omega) (by omega) (by omega) (by omega) (by omega) (by omega)]; exact q29
    · rw [c55]; exact y30
    · rw [c55]; exact y31
    · rw [c55]; exact y32
    · rw [c55]; exact y33
    · rw [c55]; exact y44
    · refine mlR_e l6 (fun k hk => ?_)
      rw [(c1 k hk).1, (c1 k hk).2, xb' 69 (by omega), xb' 70 (by omega), pb 69 (by omega) (by omega) (by omega), pb 70 (by omega) (by omega) (by omega), hb 69 (by omega) (by omega) (by omega) (by omega) (by omega) (by omega), hb 70 (by omega) (by omega) (by omega) (by omega) (by omega) (by omega)]
      exact ⟨rfl, rfl⟩
  · have hl : s.2.2.2.2.2 = false := Bool.eq_false_iff.mpr hl
    obtain ⟨o1, o2⟩ := hok.2 hl
    have u2 : s.2.2.1 = 2 := o2
    have o1 : s.2.1.2.2 = C0p c := o1
    refine wv_aload_n dX8_ring_248 rfl ?_
    refine wv_getI fX8_280 dX8_ring_249 rfl (by first | assumption | rfl) ?_
    refine wv_if_eq (tgt := 343) dX8_ring_252 (by decide) (fun h252 => ?_) (fun h252 => absurd (by rw [n36, hl]; rfl) h252)
    refine wv_le (by simp [wr_leq, wr_s1, wr_s2, wr_wide]) (x_rgA hR I L K s hK (by show s.2.1.2.2.2.2 ≤ 259; rw [o1]; show 3 ≤ 259; omega) J2 ⟨q28, m61, m60, m62, m66, q29, ?_, ?_, ?_, ?_, ?_, ?_⟩ (by rw [u2]; exact q46) n2 n3 hf2)
    · show _ = s.2.1.2.2.1.1; rw [o1]; exact q30
    · show _ = s.2.1.2.2.1.2.1; rw [o1]; exact q31
    · show _ = nI s.2.1.2.2.1.2.2.1; rw [o1]; exact q32
    · show _ = s.2.1.2.2.1.2.2.2; rw [o1]; exact q33
    · show _ = nI s.2.1.2.2.2.2; rw [o1]; exact q44
    · show mlR s.2.1.2.2.2.1 s.2.1.2.2.2.2 _ _; rw [o1]; exact mlR_p w0 w1 w2 w3

def rgA (I : wr_TI) (T : TP) : wr_TI := wr_uI (wr_uI (wr_uI (wr_uI (wr_uI (wr_uI (wr_uI (wr_uI (wr_uI (wr_uI (wr_uI I 55 5 (nI T.1)) 55 1 0) 55 4 0) 55 2 0) 55 3 (-1)) 55 22 24) 55 23 0) 55 45 0) 55 34 0) 55 35 0) 55 36 0
theorem rgA_b {I : wr_TI} {T : TP} {b : Nat} (h : b ≠ 55) : rgA I T b = I b := by unfold rgA; rw [wr_uI_ne h, wr_uI_ne h, wr_uI_ne h, wr_uI_ne h, wr_uI_ne h, wr_uI_ne h, wr_uI_ne h, wr_uI_ne h, wr_uI_ne h, wr_uI_ne h, wr_uI_ne h]
theorem rgA_k {I : wr_TI} {T : TP} {k : Nat} (h1 : k ≠ 1) (h2 : k ≠ 2) (h3 : k ≠ 3) (h4 : k ≠ 4) (h5 : k ≠ 5) (h6 : k ≠ 22) (h7 : k ≠ 23) (h8 : k ≠ 45) (h9 : k ≠ 34) (h10 : k ≠ 35) (h11 : k ≠ 36) : rgA I T 55 k = I 55 k := by unfold rgA; rw [wr_uI_nk h11, wr_uI_nk h10, wr_uI_nk h9, wr_uI_nk h8, wr_uI_nk h7, wr_uI_nk h6, wr_uI_nk h3, wr_uI_nk h2, wr_uI_nk h4, wr_uI_nk h1, wr_uI_nk h5]
theorem mxg_0 {I J : wr_TI} {T : TP} {L K : wr_TL} {c a b d : Nat → Int32} (h57 : ∀ x, x < 40 → J 57 x = 0 ∧ J 58 x = 0 ∧ J 59 x = 0) (hb : ∀ q, q ≠ 57 → q ≠ 58 → q ≠ 59 → J q = rgA I T q) (k : TK) : mxg J (k, gE c a b d, 2, false, false, false) := by
  have e55 : J 55 = rgA I T 55 := hb 55 (by omega) (by omega) (by omega)
  refine ⟨?_, ⟨by show 6 ≤ 24; omega, by show 24 ≤ 40; omega⟩, fun x hx => ?_, ?_, Nat.zero_le _, fun k hk => absurd hk (Nat.not_lt_zero _), ?_, ?_, ?_, fun _ => ?_, fun z => by cases z⟩
  · rw [e55]; simp [rgA, wr_uI, gE, gN]; rfl
  · obtain ⟨q1, q2, q3⟩ := h57 x hx
    exact ⟨q2, q1, q3⟩
  · rw [e55]; simp [rgA, wr_uI, gE]; rfl
  · rw [e55]; simp [rgA, wr_uI, bI]
  · rw [e55]; simp [rgA, wr_uI, bI]
  · rw [e55]; simp [rgA, wr_uI, bI]
  · rw [e55]; simp [rgA, wr_uI]
set_option maxHeartbeats 4000000 in
set_option maxRecDepth 100000 in
theorem x_ring {l : Launch} {I : wr_TI} {L : wr_TL} {R : wr_TR} (hR : wr_RC R) (T : TP) (hT : mtV I T) (hp : ∀ i, i < T.1 → 0 ≤ T.2 i) (g : RG) (c a b d : Nat → Int32) (hg : g = gE c a b d) (r : XR) (N : Nat) (hN : N = 801) (hr : lText T N (x0 T g) = r) : wr_P l 6 mX8_ring [.ref 55] SH I L R (mrQ I L R r) := by
  obtain ⟨t1, t2, t3⟩ := hT
  have hend : ∀ (J : wr_TI) (K : wr_TL) (s : XS), r = .inl s → mxV J K T s → lOk (C0p c) s.2 → fr0 I J → (∀ b, b ≠ 55 → K b = L b) → wr_V l 6 mX8_ring 119 [some (.ref 55), none] [] SH J K R 0 0 (mrQ I L R r) := by
    intro J K s hs hV hok hf hK
    subst hs
    obtain ⟨g1, g2, g3, g4, g5, g6, g7, g8, g9, g10, g11⟩ := id hV.2.2
    refine wv_aload_n dX8_ring_119 rfl ?_
    refine wv_getI fX8_200 dX8_ring_120 rfl (by first | assumption | rfl) ?_
    refine wv_if_le (tgt := 128) dX8_ring_123 (by decide) (fun h123 => ?_) (fun h123 => absurd (by rw [hV.1.2.2.1]; exact Int32.le_refl _) h123)
    refine wv_iconst (v := nI 0) dX8_ring_128 rfl ?_
    refine wv_istore_k (i := 1) dX8_ring_129 rfl (by decide) ?_
    refine wv_le (by simp [wr_leq, wr_s1, wr_s2, wr_wide]) (x_rg2 hR K _ J (gD s.2.1) (gG s.2.1) (gF s.2.1) (fun x hx => (g3 x hx).2.1) (fun x hx => (g3 x hx).1) (fun x hx => (g3 x hx).2.2) (fun J1 c1 c2 => ?_) 40 0 J (by omega) (fun x hx => by omega) (fun _ _ _ _ => rfl))
    refine wv_iconst (v := nI 0) dX8_ring_178 rfl ?_
    refine wv_istore_k (i := 1) dX8_ring_179 rfl (by decide) ?_
    refine wv_le (by simp [wr_leq, wr_s1, wr_s2, wr_wide]) (x_rg3 hR K _ J1 (fun J2 d1 d2 => ?_) 6 0 J1 (by omega) (fun x hx => by omega) (fun _ _ _ _ => rfl))
    refine x_rgB hR I L K T c s hK J hV hok hf J2 (fun b b1 b2 b3 b4 b5 b6 => (d2 b b4 b5 b6).trans (c2 b b1 b2 b3)) (fun x hx => ?_) (fun x hx => ?_)
    · rw [d2 60 (by omega) (by omega) (by omega), d2 61 (by omega) (by omega) (by omega), d2 62 (by omega) (by omega) (by omega)]; exact c1 x hx
    · have := d1 x hx
      rw [c2 63 (by omega) (by omega) (by omega), c2 64 (by omega) (by omega) (by omega), c2 65 (by omega) (by omega) (by omega)] at this
      exact this
    
  have hbad : ∀ (J : wr_TI) (K : wr_TL) (e : Int32 × Nat), r = .inr e → mfl J e → fr0 I J → (∀ b, xb b = false → J b = I b) → (∀ k, xk k = false → k ≠ 1 → k ≠ 5 → J 55 k = I 55 k) → (∀ b, b ≠ 55 → K b = L b) → wr_V l 6 mX8_ring 119 [some (.ref 55), none] [] SH J K R 0 0 (mrQ I L R r) := by
    intro J K e hs hm hf hx hk hK
    subst hs
    have np : ¬ J 55 2 ≤ 0 := by rw [hm.1]; exact Int32.not_le.mpr hm.2.2
    refine wv_aload_n dX8_ring_119 rfl ?_
    refine wv_getI fX8_200 dX8_ring_120 rfl (by first | assumption | rfl) ?_
    refine wv_if_le (tgt := 128) dX8_ring_123 (by decide) (fun h123 => absurd h123 np) (fun h123 => ?_)
    refine wv_iconst (v := (-1)) dX8_ring_126 (by decide) ?_
    refine wv_iret rfl dX8_ring_127 ?_
    exact ⟨rfl, rfl, hf, hK, rfl, hm, hx, hk⟩
  refine wv_pad 1 ?_
  show wr_V l 6 mX8_ring 0 [some (.ref 55), none] [] SH I L R 0 0 _
  refine wv_aload_n dX8_ring_0 rfl ?_
  refine wv_aload_n dX8_ring_1 rfl ?_
  refine wv_getI fX8_160 dX8_ring_2 rfl (by first | assumption | rfl) ?_
  rw [t1]
  refine wv_putI fX8_170 dX8_ring_5 rfl rfl rfl rfl (by first | assumption | rfl) ?_
  refine wv_aload_n dX8_ring_8 rfl ?_
  refine wv_iconst (v := 0) dX8_ring_9 (by decide) ?_
  refine wv_putI fX8_160 dX8_ring_10 rfl rfl rfl rfl (by first | assumption | rfl) ?_
  refine wv_aload_n dX8_ring_13 rfl ?_
  refine wv_iconst (v := 0) dX8_ring_14 (by decide) ?_
  refine wv_putI fX8_167 dX8_ring_15 rfl rfl rfl rfl (by first | assumption | rfl) ?_
  refine wv_aload_n dX8_ring_18 rfl ?_
  refine wv_iconst (v := 0) dX8_ring_19 (by decide) ?_
  refine wv_putI fX8_200 dX8_ring_20 rfl rfl rfl rfl (by first | assumption | rfl) ?_
  refine wv_aload_n dX8_ring_23 rfl ?_
  refine wv_iconst (v := (-1)) dX8_ring_24 (by decide) ?_
  refine wv_putI fX8_13 dX8_ring_25 rfl rfl rfl rfl (by first | assumption | rfl) ?_
  refine wv_aload_n dX8_ring_28 rfl ?_
  refine wv_bipush (v := 24) dX8_ring_29 (by decide) ?_
  refine wv_putI fX8_316 dX8_ring_31 rfl rfl rfl rfl (by first | assumption | rfl) ?_
  refine wv_aload_n dX8_ring_34 rfl ?_
  refine wv_iconst (v := 0) dX8_ring_35 (by decide) ?_
  refine wv_putI fX8_322 dX8_ring_36 rfl rfl rfl rfl (by first | assumption | rfl) ?_
  refine wv_aload_n dX8_ring_39 rfl ?_
  refine wv_iconst (v := 0) dX8_ring_40 (by decide) ?_
  refine wv_putI fX8_260 dX8_ring_41 rfl rfl rfl rfl (by first | assumption | rfl) ?_
  refine wv_aload_n dX8_ring_44 rfl ?_
  refine wv_iconst (v := 0) dX8_ring_45 (by decide) ?_
  refine wv_putI fX8_319 dX8_ring_46 rfl rfl rfl rfl (by first | assumption | rfl) ?_
  refine wv_aload_n dX8_ring_49 rfl ?_
  refine wv_iconst (v := 0) dX8_ring_50 (by decide) ?_
  refine wv_putI fX8_333 dX8_ring_51 rfl rfl rfl rfl (by first | assumption | rfl) ?_
  refine wv_aload_n dX8_ring_54 rfl ?_
  refine wv_iconst (v := 0) dX8_ring_55 (by decide) ?_
  refine wv_putI fX8_280 dX8_ring_56 rfl rfl rfl rfl (by first | assumption | rfl) ?_
  refine wv_iconst (v := nI 0) dX8_ring_59 rfl ?_
  refine wv_istore_k (i := 1) dX8_ring_60 rfl (by decide) ?_
  refine wv_le (by simp [wr_leq, wr_s1, wr_s2, wr_wide]) (x_rg1 hR L _ (rgA I T) (fun J z1 z2 => ?_) 40 0 _ (by omega) (fun x hx => by omega) (fun _ _ _ _ => rfl))
  have e55 : J 55 = rgA I T 55 := z2 55 (by omega) (by omega) (by omega)
  have hP : mpV J T := ⟨by rw [e55]; simp [rgA, wr_uI], t2, fun i hi => by rw [z2 56 (by omega) (by omega) (by omega), rgA_b (by omega)]; exact t3 i hi, hp⟩
  have h4 : J 55 4 = nI 0 := by rw [e55]; simp [rgA, wr_uI, nI_0]
  have h2 : J 55 2 = 0 := by rw [e55]; simp [rgA, wr_uI]
  have h3 : J 55 3 = -1 := by rw [e55]; simp [rgA, wr_uI]
  refine wv_aload_n dX8_ring_94 rfl ?_
  refine wv_v0 oX8_token kX8_210 dX8_ring_95 (by omega) (by first | assumption | rfl) ⟨rfl, by decide⟩ (Nat.le_of_ble_eq_true rfl) (Nat.le_of_ble_eq_true rfl) (x_token hR T hP 0 (by omega) h4) (fun v9 s9 J9 L9 R9 h9 => ?_)
  obtain ⟨rfl, rfl, rfl, hk9, hf9⟩ := h9
  have hm9 : mrd J9 L9 T (tkS T 0) := ⟨hk9, tkS_g t2 (by omega), by rw [hf9.2.1 2 (by omega) (by omega) (by omega) (by omega)]; exact h2, by rw [hf9.2.1 3 (by omega) (by omega) (by omega) (by omega)]; exact h3, by rw [hf9.2.1 5 (by omega) (by omega) (by omega) (by omega)]; exact hP.1, t2, fun i hi => by rw [hf9.1 56 (by omega)]; exact hP.2.2.1 i hi, hp⟩
  have hV9 : mxV J9 L9 T (x0 T g) := ⟨hm9, tkS_q t2 (by omega), by rw [hg]; exact mxg_W (mxg_0 (L := L) (K := L) z1 z2 _) (frW_T hf9)⟩
  have hok9 : lOk (C0p c) (x0 T g).2 := by rw [hg]; exact ⟨fun z => (by cases z), fun _ => ⟨rfl, rfl⟩⟩
  have fb : ∀ q, q ≠ 55 → q ≠ 57 → q ≠ 58 → q ≠ 59 → J9 q = I q := fun q q1 q2 q3 q4 => by rw [hf9.1 q q1, z2 q q2 q3 q4, rgA_b q1]
  have fk : ∀ k, 10 ≤ k → k ≠ 22 → k ≠ 23 → k ≠ 45 → k ≠ 34 → k ≠ 35 → k ≠ 36 → J9 55 k = I 55 k := fun k k0 k1 k2 k3 k4 k5 k6 => by rw [hf9.2.1 k (by omega) (by omega) (by omega) (by omega), e55, rgA_k (by omega) (by omega) (by omega) (by omega) (by omega) k1 k2 k3 k4 k5 k6]
  have f1 : J9 55 1 = 0 := by rw [hf9.2.1 1 (by omega) (by omega) (by omega) (by omega), e55]; simp [rgA, wr_uI]
  have hfr : fr0 I J9 := ⟨fun q hq => fb q (by omega) (by omega) (by omega) (by omega), fk 59 (by omega) (by omega) (by omega) (by omega) (by omega) (by omega) (by omega), fk 70 (by omega) (by omega) (by omega) (by omega) (by omega) (by omega) (by omega), f1⟩
  have hfx : ∀ (J' : wr_TI) (K' : wr_TL), frX J9 L9 J' K' → fr0 I J' ∧ (∀ q, q ≠ 55 → K' q = L q) ∧ (∀ q, xb q = false → J' q = I q) ∧ ∀ k, xk k = false → k ≠ 1 → k ≠ 5 → J' 55 k = I 55 k := fun J' K' hx => by
    refine ⟨fr0_e hfr (fun q hq => hx.1 q ?_) (hx.2.1 59 (by decide)) (hx.2.1 70 (by decide)) (hx.2.1 1 (by decide)), fun q hq => by rw [hx.2.2.1 q hq, hf9.2.2.1 q hq], fun q hq => ?_, fun k hk k1 k5 => ?_⟩
    · unfold xb; rw [decide_eq_false_iff_not]; omega
    · rw [hx.1 q hq]
      unfold xb at hq; rw [decide_eq_false_iff_not] at hq
      exact fb q (by omega) (by omega) (by omega) (by omega)
    · rw [hx.2.1 k hk]
      unfold xk at hk; rw [decide_eq_false_iff_not] at hk
      by_cases hk9 : k = 9 ∨ k = 0
      · rw [hf9.2.1 k (by omega) (by omega) (by omega) (by omega), e55, rgA_k (by omega) (by omega) (by omega) (by omega) (by omega) (by omega) (by omega) (by omega) (by omega) (by omega) (by omega)]
      · exact fk k (by omega) (by omega) (by omega) (by omega) (by omega) (by omega) (by omega)
  have hto := lText_ok t2 (C0 := C0p c) N (x0 T g) (by rw [hN]; omega) hm9.2.1 hV9.2.1 hok9
  refine wv_le (by simp [wr_leq, wr_s1, wr_s2, wr_wide]) (x_rgL hR T _ (C0p c) N (x0 T g) J9 L9 (by rw [hN]; omega) hV9 hok9 (fun s' J' K' q1 q2 q3 => ?_) (fun e J' K' q1 q2 q3 => ?_))
  · obtain ⟨f1, f2, f3, f4⟩ := hfx J' K' q3
    exact hend J' K' s' (hr.symm.trans q1) q2 (hto s' q1).2 f1 f2
  · obtain ⟨f1, f2, f3, f4⟩ := hfx J' K' q3
    exact hbad J' K' e (hr.symm.trans q1) q2 f1 f3 f4 f2
  

