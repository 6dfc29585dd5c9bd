/-! what a line writes -/
theorem lsV_f2 {I : wr_TI} {L : wr_TL} {t : Nat} {s : XS} (ht : t = 3 ∨ t = 10) (hs : lsV I L t s) : lsV (wr_uI I 17 2 1) L t (s.1, s.2.1, s.2.2.1, true, s.2.2.2.2) ∧ frN t I L (wr_uI I 17 2 1) L ∧ noF I (wr_uI I 17 2 1) := by
  obtain ⟨h1, h2, h3, h4, h5, h6, h7, h8, h9⟩ := hs
  refine ⟨⟨?_, h2, rgW_fr h3 (fun a b1 b2 b3 => wr_uI_ne (by omega)), ?_, h5, ?_, ?_, ?_, h9⟩, ⟨fun b b1 _ => wr_uI_ne b1, fun _ _ => rfl⟩, by simp [wr_uI], by simp [wr_uI]⟩
  · unfold tkV at h1 ⊢; simp only [wr_uI]; simpa using h1
  · rw [wr_uI_ne (by omega)]; exact h4
  · simp [wr_uI, bI]
  · simp [wr_uI, bI]; exact h7
  · simp [wr_uI, bI]; exact h8
theorem lsV_f3 {I : wr_TI} {L : wr_TL} {t : Nat} {s : XS} (ht : t = 3 ∨ t = 10) (hs : lsV I L t s) : lsV (wr_uI I 17 3 1) L t (s.1, s.2.1, s.2.2.1, s.2.2.2.1, true, s.2.2.2.2.2) ∧ frN t I L (wr_uI I 17 3 1) L ∧ noF I (wr_uI I 17 3 1) := by
  obtain ⟨h1, h2, h3, h4, h5, h6, h7, h8, h9⟩ := hs
  refine ⟨⟨?_, h2, rgW_fr h3 (fun a b1 b2 b3 => wr_uI_ne (by omega)), ?_, h5, ?_, ?_, ?_, fun q => by cases q⟩, ⟨fun b b1 _ => wr_uI_ne b1, fun _ _ => rfl⟩, by simp [wr_uI], by simp [wr_uI]⟩
  · unfold tkV at h1 ⊢; simp only [wr_uI]; simpa using h1
  · rw [wr_uI_ne (by omega)]; exact h4
  · simp [wr_uI, bI]; exact h6
  · simp [wr_uI, bI]
  · simp [wr_uI, bI]; exact h8
theorem lsV_f4 {I : wr_TI} {L : wr_TL} {t : Nat} {s : XS} (ht : t = 3 ∨ t = 10) (hs : lsV I L t s) : lsV (wr_uI I 17 4 1) L t (s.1, s.2.1, s.2.2.1, s.2.2.2.1, s.2.2.2.2.1, true) ∧ frN t I L (wr_uI I 17 4 1) L ∧ noF I (wr_uI I 17 4 1) := by
  obtain ⟨h1, h2, h3, h4, h5, h6, h7, h8, h9⟩ := hs
  refine ⟨⟨?_, h2, rgW_fr h3 (fun a b1 b2 b3 => wr_uI_ne (by omega)), ?_, h5, ?_, ?_, ?_, h9⟩, ⟨fun b b1 _ => wr_uI_ne b1, fun _ _ => rfl⟩, by simp [wr_uI], by simp [wr_uI]⟩
  · unfold tkV at h1 ⊢; simp only [wr_uI]; simpa using h1
  · rw [wr_uI_ne (by omega)]; exact h4
  · simp [wr_uI, bI]; exact h6
  · simp [wr_uI, bI]; exact h7
  · simp [wr_uI, bI]
theorem lsV_N {I : wr_TI} {L : wr_TL} {t : Nat} {s : XS} (ht : t = 3 ∨ t = 10) (hs : lsV I L t s) {x : Int32} {n : Nat} (hx : x = nI n) (hn6 : 6 ≤ n) (hn40 : n ≤ 40) (hp : s.2.2.2.2.1 = false) : lsV (wr_uI I t 5 x) L t (s.1, sN n s.2.1, s.2.2) ∧ frN t I L (wr_uI I t 5 x) L ∧ noF I (wr_uI I t 5 x) := by
  obtain ⟨h1, h2, h3, h4, h5, h6, h7, h8, h9⟩ := hs
  obtain ⟨r1, r2, r3, r4, r5, r6, r7, r8, r9, r10, r11, r12, r13, r14, r15, r16, r17, r18, r19, r20, r21, r22, r23⟩ := h3
  have e0 : ∀ j, j ≠ 5 → wr_uI I t 5 x t j = I t j := fun j hj => by simp [wr_uI, hj]
  have e1 : wr_uI I t 5 x t 5 = x := by simp [wr_uI]
  have e2 : ∀ a, a ≠ t → wr_uI I t 5 x a = I a := fun a ha => wr_uI_ne ha
  refine ⟨⟨?_, h2, ?_, ?_, h5, ?_, ?_, ?_, ?_⟩, ⟨fun b b1 b2 => e2 b (by omega), fun _ _ => rfl⟩, by rw [e2 _ (by omega)], by rw [e2 _ (by omega)]⟩
  · unfold tkV at h1 ⊢; rw [wr_uI_ne (by omega)]; exact h1
  · unfold rgW
    rw [e2 (t + 1) (by omega), e2 (t + 2) (by omega), e2 (t + 4) (by omega), e2 (t + 5) (by omega), e2 (t + 6) (by omega)]
    refine ⟨by rw [e1]; exact hx, hn6, hn40, r4, r5, r6, fun j _ => h9 hp j, r8, r9, r10, by rw [e0 4 (by omega)]; exact r11, r12, by rw [e0 9 (by omega)]; exact r13, r14, by rw [e0 10 (by omega)]; exact r15, r16, by rw [e0 11 (by omega)]; exact r17, r18, by rw [e0 12 (by omega)]; exact r19, r20, r21, r22, r23⟩
  · rw [e2 (t + 1) (by omega)]; exact h4
  · rw [e2 17 (by omega)]; exact h6
  · rw [e2 17 (by omega)]; exact h7
  · rw [e2 17 (by omega)]; exact h8
  · intro q; exact h9 q
theorem lsV_up {I : wr_TI} {L : wr_TL} {t : Nat} {s : XS} (ht : t = 3 ∨ t = 10) (hs : lsV I L t s) {x : Int32} (hx : 1 ≤ x ∧ x ≤ 9) : lsV (wr_uI I t 9 x) L t (s.1, sUp x s.2.1, s.2.2) ∧ frN t I L (wr_uI I t 9 x) L ∧ noF I (wr_uI I t 9 x) := by
  obtain ⟨h1, h2, h3, h4, h5, h6, h7, h8, h9⟩ := hs
  obtain ⟨r1, r2, r3, r4, r5, r6, r7, r8, r9, r10, r11, r12, r13, r14, r15, r16, r17, r18, r19, r20, r21, r22, r23⟩ := h3
  have e0 : ∀ j, j ≠ 9 → wr_uI I t 9 x t j = I t j := fun j hj => by simp [wr_uI, hj]
  have e1 : wr_uI I t 9 x t 9 = x := by simp [wr_uI]
  have e2 : ∀ a, a ≠ t → wr_uI I t 9 x a = I a := fun a ha => wr_uI_ne ha
  refine ⟨⟨?_, h2, ?_, ?_, h5, ?_, ?_, ?_, ?_⟩, ⟨fun b b1 b2 => e2 b (by omega), fun _ _ => rfl⟩, by rw [e2 _ (by omega)], by rw [e2 _ (by omega)]⟩
  · unfold tkV at h1 ⊢; rw [wr_uI_ne (by omega)]; exact h1
  · unfold rgW
    rw [e2 (t + 1) (by omega), e2 (t + 2) (by omega), e2 (t + 4) (by omega), e2 (t + 5) (by omega), e2 (t + 6) (by omega)]
    refine ⟨by rw [e0 5 (by omega)]; exact r1, r2, r3, r4, r5, r6, r7, r8, r9, r10, by rw [e0 4 (by omega)]; exact r11, r12, e1, hx, by rw [e0 10 (by omega)]; exact r15, r16, by rw [e0 11 (by omega)]; exact r17, r18, by rw [e0 12 (by omega)]; exact r19, r20, r21, r22, r23⟩
  · rw [e2 (t + 1) (by omega)]; exact h4
  · rw [e2 17 (by omega)]; exact h6
  · rw [e2 17 (by omega)]; exact h7
  · rw [e2 17 (by omega)]; exact h8
  · exact h9
theorem lsV_re {I : wr_TI} {L : wr_TL} {t : Nat} {s : XS} (ht : t = 3 ∨ t = 10) (hs : lsV I L t s) {x : Int32} (hx : 0 ≤ x ∧ x ≤ 20) : lsV (wr_uI I t 10 x) L t (s.1, sRe x s.2.1, s.2.2) ∧ frN t I L (wr_uI I t 10 x) L ∧ noF I (wr_uI I t 10 x) := by
  obtain ⟨h1, h2, h3, h4, h5, h6, h7, h8, h9⟩ := hs
  obtain ⟨r1, r2, r3, r4, r5, r6, r7, r8, r9, r10, r11, r12, r13, r14, r15, r16, r17, r18, r19, r20, r21, r22, r23⟩ := h3
  have e0 : ∀ j, j ≠ 10 → wr_uI I t 10 x t j = I t j := fun j hj => by simp [wr_uI, hj]
  have e1 : wr_uI I t 10 x t 10 = x := by simp [wr_uI]
  have e2 : ∀ a, a ≠ t → wr_uI I t 10 x a = I a := fun a ha => wr_uI_ne ha
  refine ⟨⟨?_, h2, ?_, ?_, h5, ?_, ?_, ?_, ?_⟩, ⟨fun b b1 b2 => e2 b (by omega), fun _ _ => rfl⟩, by rw [e2 _ (by omega)], by rw [e2 _ (by omega)]⟩
  · unfold tkV at h1 ⊢; rw [wr_uI_ne (by omega)]; exact h1
  · unfold rgW
    rw [e2 (t + 1) (by omega), e2 (t + 2) (by omega), e2 (t + 4) (by omega), e2 (t + 5) (by omega), e2 (t + 6) (by omega)]
    refine ⟨by rw [e0 5 (by omega)]; exact r1, r2, r3, r4, r5, r6, r7, r8, r9, r10, by rw [e0 4 (by omega)]; exact r11, r12, by rw [e0 9 (by omega)]; exact r13, r14, e1, hx, by rw [e0 11 (by omega)]; exact r17, r18, by rw [e0 12 (by omega)]; exact r19, r20, r21, r22, r23⟩
  · rw [e2 (t + 1) (by omega)]; exact h4
  · rw [e2 17 (by omega)]; exact h6
  · rw [e2 17 (by omega)]; exact h7
  · rw [e2 17 (by omega)]; exact h8
  · exact h9
theorem lsV_se {I : wr_TI} {L : wr_TL} {t : Nat} {s : XS} (ht : t = 3 ∨ t = 10) (hs : lsV I L t s) {x : Int32} {n : Nat} (hx : x = nI n) (hn1 : 1 ≤ n) (hn9 : n ≤ 9) : lsV (wr_uI I t 11 x) L t (s.1, sSe n s.2.1, s.2.2) ∧ frN t I L (wr_uI I t 11 x) L ∧ noF I (wr_uI I t 11 x) := by
  obtain ⟨h1, h2, h3, h4, h5, h6, h7, h8, h9⟩ := hs
  obtain ⟨r1, r2, r3, r4, r5, r6, r7, r8, r9, r10, r11, r12, r13, r14, r15, r16, r17, r18, r19, r20, r21, r22, r23⟩ := h3
  have e0 : ∀ j, j ≠ 11 → wr_uI I t 11 x t j = I t j := fun j hj => by simp [wr_uI, hj]
  have e1 : wr_uI I t 11 x t 11 = x := by simp [wr_uI]
  have e2 : ∀ a, a ≠ t → wr_uI I t 11 x a = I a := fun a ha => wr_uI_ne ha
  refine ⟨⟨?_, h2, ?_, ?_, h5, ?_, ?_, ?_, ?_⟩, ⟨fun b b1 b2 => e2 b (by omega), fun _ _ => rfl⟩, by rw [e2 _ (by omega)], by rw [e2 _ (by omega)]⟩
  · unfold tkV at h1 ⊢; rw [wr_uI_ne (by omega)]; exact h1
  · unfold rgW
    rw [e2 (t + 1) (by omega), e2 (t + 2) (by omega), e2 (t + 4) (by omega), e2 (t + 5) (by omega), e2 (t + 6) (by omega)]
    refine ⟨by rw [e0 5 (by omega)]; exact r1, r2, r3, r4, r5, r6, r7, r8, r9, r10, by rw [e0 4 (by omega)]; exact r11, r12, by rw [e0 9 (by omega)]; exact r13, r14, by rw [e0 10 (by omega)]; exact r15, r16, by rw [e1]; exact hx, ⟨hn1, hn9⟩, by rw [e0 12 (by omega)]; exact r19, r20, r21, r22, r23⟩
  · rw [e2 (t + 1) (by omega)]; exact h4
  · rw [e2 17 (by omega)]; exact h6
  · rw [e2 17 (by omega)]; exact h7
  · rw [e2 17 (by omega)]; exact h8
  · exact h9
theorem lsV_sh {I : wr_TI} {L : wr_TL} {t : Nat} {s : XS} (ht : t = 3 ∨ t = 10) (hs : lsV I L t s) {x : Int32} (hx : 0 ≤ x ∧ x ≤ 9) : lsV (wr_uI I t 12 x) L t (s.1, sSh x s.2.1, s.2.2) ∧ frN t I L (wr_uI I t 12 x) L ∧ noF I (wr_uI I t 12 x) := by
  obtain ⟨h1, h2, h3, h4, h5, h6, h7, h8, h9⟩ := hs
  obtain ⟨r1, r2, r3, r4, r5, r6, r7, r8, r9, r10, r11, r12, r13, r14, r15, r16, r17, r18, r19, r20, r21, r22, r23⟩ := h3
  have e0 : ∀ j, j ≠ 12 → wr_uI I t 12 x t j = I t j := fun j hj => by simp [wr_uI, hj]
  have e1 : wr_uI I t 12 x t 12 = x := by simp [wr_uI]
  have e2 : ∀ a, a ≠ t → wr_uI I t 12 x a = I a := fun a ha => wr_uI_ne ha
  refine ⟨⟨?_, h2, ?_, ?_, h5, ?_, ?_, ?_, ?_⟩, ⟨fun b b1 b2 => e2 b (by omega), fun _ _ => rfl⟩, by rw [e2 _ (by omega)], by rw [e2 _ (by omega)]⟩
  · unfold tkV at h1 ⊢; rw [wr_uI_ne (by omega)]; exact h1
  · unfold rgW
    rw [e2 (t + 1) (by omega), e2 (t + 2) (by omega), e2 (t + 4) (by omega), e2 (t + 5) (by omega), e2 (t + 6) (by omega)]
    refine ⟨by rw [e0 5 (by omega)]; exact r1, r2, r3, r4, r5, r6, r7, r8, r9, r10, by rw [e0 4 (by omega)]; exact r11, r12, by rw [e0 9 (by omega)]; exact r13, r14, by rw [e0 10 (by omega)]; exact r15, r16, by rw [e0 11 (by omega)]; exact r17, r18, e1, hx, r21, r22, r23⟩
  · rw [e2 (t + 1) (by omega)]; exact h4
  · rw [e2 17 (by omega)]; exact h6
  · rw [e2 17 (by omega)]; exact h7
  · rw [e2 17 (by omega)]; exact h8
  · exact h9
theorem lsV_cl {I : wr_TI} {L : wr_TL} {t : Nat} {s : XS} (ht : t = 3 ∨ t = 10) (hs : lsV I L t s) : lsV (lcI I t) L t (s.1, sCo (gC s.2.1, 0) s.2.1, 0, s.2.2.2) ∧ frN t I L (lcI I t) L ∧ noF I (lcI I t) := by
  obtain ⟨h1, h2, h3, h4, h5, h6, h7, h8, h9⟩ := hs
  obtain ⟨r1, r2, r3, r4, r5, r6, r7, r8, r9, r10, r11, r12, r13, r14, r15, r16, r17, r18, r19, r20, r21, r22, r23⟩ := h3
  have e2 : ∀ a, a ≠ t + 1 → lcI I t a = I a := fun a ha => by unfold lcI; rw [wr_uI_ne ha, wr_uI_ne ha]
  refine ⟨⟨?_, h2, ?_, ?_, by show 0 ≤ 30; omega, ?_, ?_, ?_, h9⟩, ⟨fun b b1 b2 => e2 b (by omega), fun _ _ => rfl⟩, by rw [e2 _ (by omega)], by rw [e2 _ (by omega)]⟩
  · unfold tkV at h1 ⊢; rw [e2 _ (by omega)]; exact h1
  · unfold rgW
    rw [e2 t (by omega), e2 (t + 2) (by omega), e2 (t + 4) (by omega), e2 (t + 5) (by omega), e2 (t + 6) (by omega)]
    exact ⟨r1, r2, r3, r4, r5, r6, r7, r8, r9, r10, r11, r12, r13, r14, r15, r16, r17, r18, r19, r20, r21, by simp [lcI, wr_uI]; rfl, by show 0 ≤ 260; omega⟩
  · simp [lcI, wr_uI]; rfl
  · rw [e2 17 (by omega)]; exact h6
  · rw [e2 17 (by omega)]; exact h7
  · rw [e2 17 (by omega)]; exact h8
def slI (I : wr_TI) (t n : Nat) (x y z : Int32) : wr_TI := wr_uI (wr_uI (wr_uI (wr_uI I (t + 4) n x) (t + 5) n y) (t + 6) n z) t 4 (nI (n + 1))
theorem lsV_sl {I : wr_TI} {L : wr_TL} {t : Nat} {s : XS} (ht : t = 3 ∨ t = 10) (hs : lsV I L t s) (x y z : Int32) (hn : s.2.1.2.1.2.2.2 < 6) : lsV (slI I t s.2.1.2.1.2.2.2 x y z) L t (s.1, sSl x y z s.2.1, s.2.2) ∧ frN t I L (slI I t s.2.1.2.1.2.2.2 x y z) L ∧ noF I (slI I t s.2.1.2.1.2.2.2 x y z) := by
  obtain ⟨h1, h2, h3, h4, h5, h6, h7, h8, h9⟩ := hs
  obtain ⟨r1, r2, r3, r4, r5, r6, r7, r8, r9, r10, r11, r12, r13, r14, r15, r16, r17, r18, r19, r20, r21, r22, r23⟩ := h3
  have e0 : ∀ j, j ≠ 4 → slI I t s.2.1.2.1.2.2.2 x y z t j = I t j := fun j hj => by simp [slI, wr_uI, hj]
  have e2 : ∀ a, a ≠ t → a ≠ t + 4 → a ≠ t + 5 → a ≠ t + 6 → slI I t s.2.1.2.1.2.2.2 x y z a = I a := fun a a1 a2 a3 a4 => by unfold slI; rw [wr_uI_ne a1, wr_uI_ne a4, wr_uI_ne a3, wr_uI_ne a2]
  have e17 : slI I t s.2.1.2.1.2.2.2 x y z 17 = I 17 := e2 17 (by omega) (by omega) (by omega) (by omega)
  refine ⟨⟨?_, h2, ?_, ?_, h5, ?_, ?_, ?_, h9⟩, ⟨fun b b1 b2 => e2 b (by omega) (by omega) (by omega) (by omega), fun _ _ => rfl⟩, by rw [e17], by rw [e17]⟩
  · unfold tkV at h1 ⊢; rw [e17]; exact h1
  · unfold rgW
    rw [e2 (t + 1) (by omega) (by omega) (by omega) (by omega), e2 (t + 2) (by omega) (by omega) (by omega) (by omega)]
    refine ⟨by rw [e0 5 (by omega)]; exact r1, r2, r3, r4, r5, r6, r7, ?_, ?_, ?_, by simp [slI, wr_uI]; rfl, by show s.2.1.2.1.2.2.2 + 1 ≤ 6; omega, by rw [e0 9 (by omega)]; exact r13, r14, by rw [e0 10 (by omega)]; exact r15, r16, by rw [e0 11 (by omega)]; exact r17, r18, by rw [e0 12 (by omega)]; exact r19, r20, r21, r22, r23⟩
    · funext b
      show _ = upd s.2.1.2.1.1 s.2.1.2.1.2.2.2 x b
      rw [← r8]
      simp [slI, wr_uI, upd]
    · funext b
      show _ = upd s.2.1.2.1.2.1 s.2.1.2.1.2.2.2 y b
      rw [← r9]
      simp [slI, wr_uI, upd]
    · funext b
      show _ = upd s.2.1.2.1.2.2.1 s.2.1.2.1.2.2.2 z b
      rw [← r10]
      simp [slI, wr_uI, upd]
  · rw [e2 (t + 1) (by omega) (by omega) (by omega) (by omega)]; exact h4
  · rw [e17]; exact h6
  · rw [e17]; exact h7
  · rw [e17]; exact h8
theorem sfB_rg {n a b : Nat} (hab : a ≤ b) (hb : b < n) : sfB n a (b - a + 1) = rg a b := by
  funext x
  unfold sfB rg
  by_cases hx : x < n
  · by_cases hax : a ≤ x
    · have e : (x + n - a) % n = x - a := by rw [show x + n - a = (x - a) + n by omega, Nat.add_mod_right, Nat.mod_eq_of_lt (by omega)]
      rw [e]
      simp only [hx, hax, decide_true, Bool.true_and, true_and]
      congr 1
      rw [eq_iff_iff]
      omega
    · have e : (x + n - a) % n = x + n - a := Nat.mod_eq_of_lt (by omega)
      rw [e]
      have h1 : ¬ x + n - a < b - a + 1 := by omega
      simp [hax, h1]
  · have h1 : ¬ (a ≤ x ∧ x ≤ b) := by omega
    simp [hx, h1]
/-- places told: 0 dear, 1 gap, 2 few -/
theorem lsV_pl {I : wr_TI} {L : wr_TL} {t : Nat} {s : XS} (ht : t = 3 ∨ t = 10) (hs : lsV I L t s) (w k a b : Nat) (y : Int64) (hy : lb y = rg a b) (hw : (w = 0 ∧ k = 7) ∨ (w = 1 ∧ k = 6) ∨ (w = 2 ∧ k = 8)) (hab : a ≤ b) (hb : b < gN s.2.1) (hp : s.2.2.2.2.1 = true) : lsV I (wr_uL L t k (L t k ||| y)) t (s.1, sPl w a b s.2.1, s.2.2) ∧ frN t I L I (wr_uL L t k (L t k ||| y)) := by
  obtain ⟨h1, h2, h3, h4, h5, h6, h7, h8, h9⟩ := hs
  obtain ⟨r1, r2, r3, r4, r5, r6, r7, r8, r9, r10, r11, r12, r13, r14, r15, r16, r17, r18, r19, r20, r21, r22, r23⟩ := h3
  refine ⟨⟨h1, h2, ?_, h4, h5, h6, h7, h8, fun q => by rw [hp] at q; cases q⟩, ⟨fun _ _ _ => rfl, fun b hb => by funext d; simp [wr_uL, hb]⟩⟩
  have hrg : ∀ j, gN s.2.1 ≤ j → rg a b j = false := fun j hj => by
    have : ¬ (a ≤ j ∧ j ≤ b) := by omega
    simp [rg, this]
  rcases hw with ⟨rfl, rfl⟩ | ⟨rfl, rfl⟩ | ⟨rfl, rfl⟩
  · refine ⟨r1, r2, r3, fun j => by simp [wr_uL]; exact r4 j, fun j => ?_, fun j => by simp [wr_uL]; exact r6 j, fun j hj => ⟨(r7 j hj).1, ?_, (r7 j hj).2.2⟩, r8, r9, r10, r11, r12, r13, r14, r15, r16, r17, r18, r19, r20, r21, r22, r23⟩
    · show _ = (s.2.1.1.2.2.1 j || rg a b j)
      simp only [wr_uL, and_self, if_true]
      rw [lb_or, hy, r5 j]; rfl
    · show (s.2.1.1.2.2.1 j || rg a b j) = false
      rw [hrg j hj, Bool.or_false]; exact (r7 j hj).2.1
  · refine ⟨r1, r2, r3, fun j => ?_, fun j => by simp [wr_uL]; exact r5 j, fun j => by simp [wr_uL]; exact r6 j, fun j hj => ⟨?_, (r7 j hj).2.1, (r7 j hj).2.2⟩, r8, r9, r10, r11, r12, r13, r14, r15, r16, r17, r18, r19, r20, r21, r22, r23⟩
    · show _ = (s.2.1.1.2.1 j || rg a b j)
      simp only [wr_uL, and_self, if_true]
      rw [lb_or, hy, r4 j]; rfl
    · show (s.2.1.1.2.1 j || rg a b j) = false
      rw [hrg j hj, Bool.or_false]; exact (r7 j hj).1
  · refine ⟨r1, r2, r3, fun j => by simp [wr_uL]; exact r4 j, fun j => by simp [wr_uL]; exact r5 j, fun j => ?_, fun j hj => ⟨(r7 j hj).1, (r7 j hj).2.1, ?_⟩, r8, r9, r10, r11, r12, r13, r14, r15, r16, r17, r18, r19, r20, r21, r22, r23⟩
    · show _ = (s.2.1.1.2.2.2 j || rg a b j)
      simp only [wr_uL, and_self, if_true]
      rw [lb_or, hy, r6 j]; rfl
    · show (s.2.1.1.2.2.2 j || rg a b j) = false
      rw [hrg j hj, Bool.or_false]; exact (r7 j hj).2.2
