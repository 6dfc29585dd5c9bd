/-! each call's step, on the model's side -/
def zQm (I : wr_TI) (L : wr_TL) (R : wr_TR) (a : Value) (T : TP) (fa : Int32 × Int32) (g : RG) (u : Nat) (F : FS) (m : FM) (tm : Int32) (hb : Nat → Bool) (B : Nat → FS) : wr_TQ := fun v s' I' L' R' => v = some a ∧ s' = SH ∧ R' = R ∧ (∀ b, b < 55 → I' b = I b) ∧ (∀ b, b < 55 → L' b = L b) ∧ zM I' L' T fa g u F m tm hb B
theorem mfV_q {I I' : wr_TI} {L L' : wr_TL} {m : FM} (h : mfV I L m) (h0 : I' 55 69 = I 55 69) (h3 : I' 83 = I 83) (h4 : I' 84 = I 84) (h5 : I' 85 = I 85) (hL : L' 86 = L 86) : mfV I' L' m := by
  unfold mfV at h ⊢
  rw [h0, h3, h4, h5, hL]
  exact h
theorem mBx_q {I I' : wr_TI} {b : Nat} {B : FS} (h : mBx I b B) (hI : ∀ a, 93 ≤ a → a ≤ 99 → I' a = I a) : mBx I' b B := by
  unfold mBx at h ⊢
  rw [hI 94 (by omega) (by omega), hI 95 (by omega) (by omega), hI 96 (by omega) (by omega), hI 97 (by omega) (by omega), hI 98 (by omega) (by omega), hI 99 (by omega) (by omega)]
  exact h
theorem mcF_q {I I' : wr_TI} {F : FS} (h : mcF I F) (h1 : I' 75 = I 75) (h2 : I' 76 = I 76) (h3 : I' 80 = I 80) (hk : ∀ k, 57 ≤ k → k ≤ 59 → I' 55 k = I 55 k) : mcF I' F := by
  unfold mcF mcV at h ⊢
  rw [h1, h2, h3, hk 57 (by omega) (by omega), hk 58 (by omega) (by omega), hk 59 (by omega) (by omega)]
  exact h
theorem mtV_q {I I' : wr_TI} {T : TP} (h : mtV I T) (h1 : I' 55 1 = I 55 1) (h2 : I' 56 = I 56) : mtV I' T := by
  unfold mtV at h ⊢
  rw [h1, h2]
  exact h
theorem mZ_q {I I' : wr_TI} (h : mZ I) (h1 : I' 82 = I 82) : mZ I' := by
  unfold mZ at h ⊢
  rw [h1]
  exact h
theorem zM_g {I I' : wr_TI} {L L' : wr_TL} {T : TP} {fa : Int32 × Int32} {g : RG} {u : Nat} {F : FS} {m : FM} {tm : Int32} {hb : Nat → Bool} {B : Nat → FS} {T' : TP} {F' : FS} {m' : FM} {tm' : Int32} (h : zM I L T fa g u F m tm hb B) (hT' : mtV I' T') (hk : ∀ k, k = 2 ∨ k = 3 ∨ (28 ≤ k ∧ k ≤ 33) ∨ k = 44 ∨ k = 46 → I' 55 k = I 55 k) (hg : ∀ a, (60 ≤ a ∧ a ≤ 62) ∨ (66 ≤ a ∧ a ≤ 68) ∨ a = 71 ∨ a = 72 → I' a = I a) (hF' : mcF I' F') (hz : mZ I') (hm' : mfV I' L' m') (htm' : I' 55 70 = tm') (hbx : ∀ a, 93 ≤ a → a ≤ 99 → I' a = I a) : zM I' L' T' fa g u F' m' tm' hb B := by
  obtain ⟨c1, c2, c3, c4, c5, c6, c7, c8, c9⟩ := h
  refine ⟨hT', by rw [hk 2 (by omega), hk 3 (by omega)]; exact c2, mgV_fr c3 (fun k q => hk k (by omega)) (fun a q => hg a (by omega)), by rw [hk 46 (by omega)]; exact c4, hF', hz, hm', htm', fun b hb3 => ⟨?_, fun hh => mBx_q ((c9 b hb3).2 hh) hbx⟩⟩
  rw [hbx 93 (by omega) (by omega)]; exact (c9 b hb3).1
theorem zM_q {I I' : wr_TI} {L L' : wr_TL} {T : TP} {fa : Int32 × Int32} {g : RG} {u : Nat} {F : FS} {m : FM} {tm : Int32} {hb : Nat → Bool} {B : Nat → FS} {F' : FS} (h : zM I L T fa g u F m tm hb B) (hI : ∀ a, a = 56 ∨ (60 ≤ a ∧ a ≤ 62) ∨ (66 ≤ a ∧ a ≤ 68) ∨ a = 71 ∨ a = 72 ∨ (83 ≤ a ∧ a ≤ 85) ∨ (93 ≤ a ∧ a ≤ 99) → I' a = I a) (hk : ∀ k, (1 ≤ k ∧ k ≤ 3) ∨ (28 ≤ k ∧ k ≤ 33) ∨ k = 44 ∨ k = 46 ∨ k = 69 ∨ k = 70 → I' 55 k = I 55 k) (hL : L' 86 = L 86) (hF' : mcF I' F') (hz : mZ I') : zM I' L' T fa g u F' m tm hb B :=
  zM_g h (mtV_q h.1 (hk 1 (by omega)) (hI 56 (by omega))) (fun k q => hk k (by omega)) (fun a q => hI a (by omega)) hF' hz (mfV_q h.2.2.2.2.2.2.1 (hk 69 (by omega)) (hI 83 (by omega)) (hI 84 (by omega)) (hI 85 (by omega)) hL) (by rw [hk 70 (by omega)]; exact h.2.2.2.2.2.2.2.1) (fun a a1 a2 => hI a (by omega))
/-- a step of the class leaves the model's cells -/
theorem zM_c {I I' : wr_TI} {L L' : wr_TL} {T : TP} {fa : Int32 × Int32} {g : RG} {u : Nat} {F : FS} {m : FM} {tm : Int32} {hb : Nat → Bool} {B : Nat → FS} (h : zM I L T fa g u F m tm hb B) (hI : ∀ b, 55 ≤ b → I' b = I b) (hL : ∀ b, 55 ≤ b → L' b = L b) : zM I' L' T fa g u F m tm hb B :=
  zM_q h (fun a q => hI a (by omega)) (fun k q => by rw [hI 55 (by omega)]) (hL 86 (by omega)) (mcF_q h.2.2.2.2.1 (hI 75 (by omega)) (hI 76 (by omega)) (hI 80 (by omega)) (fun k _ _ => by rw [hI 55 (by omega)])) (mZ_q h.2.2.2.2.2.1 (hI 82 (by omega)))
/-- a step of the model leaves the class's cells -/
theorem zK_m {I I' : wr_TI} {L L' : wr_TL} {R : wr_TR} {t : Nat} {T : TP} {fa : Int32 × Int32} {g : RG} {u : Nat} {F : FS} {m : FM} {tm : Int32} {hb : Nat → Bool} {B : Nat → FS} (h : zK I L R t T fa g u F m tm hb B) (hI : ∀ b, b < 55 → I' b = I b) (hL : ∀ b, b < 55 → L' b = L b) : zK I' L' R t T fa g u F m tm hb B :=
  ⟨h.1, h.2.1, zC_q (zT_t h.2.1).1 h.2.2 (fun a a1 _ _ _ _ _ _ => hI a a1) (by rw [hI 30 (by omega)]) (by rw [hI 30 (by omega)]) (fun a a1 _ _ _ _ _ => hL a a1)⟩
set_option maxHeartbeats 4000000 in
set_option maxRecDepth 100000 in
theorem zm_fault {l : Launch} {I : wr_TI} {L : wr_TL} {R : wr_TR} {T : TP} {fa : Int32 × Int32} {g : RG} {u : Nat} {F : FS} {m : FM} {tm : Int32} {hb : Nat → Bool} {B : Nat → FS} (hR : wr_RC R) (ok : gOK g) (h : zM I L T fa g u F m tm hb B) (x : Int32) : wr_P l 64 mX8_fault [.ref 55, .int x] SH I L R (zQm I L R (.int (aFault fa.1 fa.2 x)) T fa g u F m tm hb B) := by
  obtain ⟨c1, c2, c3, c4, c5, c6, c7, c8, c9⟩ := id h
  rw [← c2.1, ← c2.2]
  refine wr_V.mono (by omega) (wr_V.imp (xW_fault hR x) (fun v s' I' L' R' q => ?_))
  obtain ⟨rfl, rfl, rfl, rfl, rfl⟩ := q
  exact ⟨rfl, rfl, rfl, fun _ _ => rfl, fun _ _ => rfl, (by first | exact h | (rw [c8]; exact h))⟩
set_option maxHeartbeats 4000000 in
set_option maxRecDepth 100000 in
theorem zm_seat {l : Launch} {I : wr_TI} {L : wr_TL} {R : wr_TR} {T : TP} {fa : Int32 × Int32} {g : RG} {u : Nat} {F : FS} {m : FM} {tm : Int32} {hb : Nat → Bool} {B : Nat → FS} (hR : wr_RC R) (ok : gOK g) (h : zM I L T fa g u F m tm hb B) (x what : Int32) : wr_P l 64 mX8_seat [.ref 55, .int x, .int what] SH I L R (zQm I L R (.int (aSeat g F.1 x what)) T fa g u F m tm hb B) := by
  obtain ⟨c1, c2, c3, c4, c5, c6, c7, c8, c9⟩ := id h
  refine wr_V.mono (by omega) (wr_V.imp (xW_seat hR g F.1 ok c3 c5.1 x what) (fun v s' I' L' R' q => ?_))
  obtain ⟨rfl, rfl, rfl, rfl, rfl⟩ := q
  exact ⟨rfl, rfl, rfl, fun _ _ => rfl, fun _ _ => rfl, (by first | exact h | (rw [c8]; exact h))⟩
set_option maxHeartbeats 4000000 in
set_option maxRecDepth 100000 in
theorem zm_way {l : Launch} {I : wr_TI} {L : wr_TL} {R : wr_TR} {T : TP} {fa : Int32 × Int32} {g : RG} {u : Nat} {F : FS} {m : FM} {tm : Int32} {hb : Nat → Bool} {B : Nat → FS} (hR : wr_RC R) (ok : gOK g) (h : zM I L T fa g u F m tm hb B) (x : Int32) : wr_P l 64 mX8_way [.ref 55, .int x] SH I L R (zQm I L R (.int (aWay F x)) T fa g u F m tm hb B) := by
  obtain ⟨c1, c2, c3, c4, c5, c6, c7, c8, c9⟩ := id h
  refine wr_V.mono (by omega) (wr_V.imp (xW_way hR F c5 x) (fun v s' I' L' R' q => ?_))
  obtain ⟨rfl, rfl, rfl, rfl, rfl⟩ := q
  exact ⟨rfl, rfl, rfl, fun _ _ => rfl, fun _ _ => rfl, (by first | exact h | (rw [c8]; exact h))⟩
set_option maxHeartbeats 4000000 in
set_option maxRecDepth 100000 in
theorem zm_wide {l : Launch} {I : wr_TI} {L : wr_TL} {R : wr_TR} {T : TP} {fa : Int32 × Int32} {g : RG} {u : Nat} {F : FS} {m : FM} {tm : Int32} {hb : Nat → Bool} {B : Nat → FS} (hR : wr_RC R) (ok : gOK g) (h : zM I L T fa g u F m tm hb B) : wr_P l 64 mX8_wide [.ref 55] SH I L R (zQm I L R (.int (aWide g F.1)) T fa g u F m tm hb B) := by
  obtain ⟨c1, c2, c3, c4, c5, c6, c7, c8, c9⟩ := id h
  refine wr_V.mono (by omega) (wr_V.imp (xW_wide hR g F.1 ok c3 c5.1) (fun v s' I' L' R' q => ?_))
  obtain ⟨rfl, rfl, rfl, rfl, rfl⟩ := q
  exact ⟨rfl, rfl, rfl, fun _ _ => rfl, fun _ _ => rfl, (by first | exact h | (rw [c8]; exact h))⟩
set_option maxHeartbeats 4000000 in
set_option maxRecDepth 100000 in
theorem zm_waves {l : Launch} {I : wr_TI} {L : wr_TL} {R : wr_TR} {T : TP} {fa : Int32 × Int32} {g : RG} {u : Nat} {F : FS} {m : FM} {tm : Int32} {hb : Nat → Bool} {B : Nat → FS} (hR : wr_RC R) (ok : gOK g) (h : zM I L T fa g u F m tm hb B) : wr_P l 64 mX8_waves [.ref 55] SH I L R (zQm I L R (.int (wvA (gN g) (uS F.1))) T fa g u F m tm hb B) := by
  obtain ⟨c1, c2, c3, c4, c5, c6, c7, c8, c9⟩ := id h
  refine wr_V.mono (by omega) (wr_V.imp (xW_waves hR g F.1 ok c3 c5.1) (fun v s' I' L' R' q => ?_))
  obtain ⟨rfl, rfl, rfl, rfl, rfl⟩ := q
  exact ⟨rfl, rfl, rfl, fun _ _ => rfl, fun _ _ => rfl, (by first | exact h | (rw [c8]; exact h))⟩
set_option maxHeartbeats 4000000 in
set_option maxRecDepth 100000 in
theorem zm_about {l : Launch} {I : wr_TI} {L : wr_TL} {R : wr_TR} {T : TP} {fa : Int32 × Int32} {g : RG} {u : Nat} {F : FS} {m : FM} {tm : Int32} {hb : Nat → Bool} {B : Nat → FS} (hR : wr_RC R) (ok : gOK g) (h : zM I L T fa g u F m tm hb B) (x : Int32) : wr_P l 64 mX8_about [.ref 55, .int x] SH I L R (zQm I L R (.int (aAbout T g u F m tm x)) T fa g u F m tm hb B) := by
  obtain ⟨c1, c2, c3, c4, c5, c6, c7, c8, c9⟩ := id h
  unfold aAbout
  rw [← c7.1, ← c8, ← c1.1, ← c4]
  refine wr_V.mono (by omega) (wr_V.imp (xW_about hR g F ok c3 c5 x) (fun v s' I' L' R' q => ?_))
  obtain ⟨rfl, rfl, rfl, rfl, rfl⟩ := q
  exact ⟨rfl, rfl, rfl, fun _ _ => rfl, fun _ _ => rfl, (by first | exact h | (rw [c8]; exact h))⟩
set_option maxHeartbeats 4000000 in
set_option maxRecDepth 100000 in
theorem zm_till {l : Launch} {I : wr_TI} {L : wr_TL} {R : wr_TR} {T : TP} {fa : Int32 × Int32} {g : RG} {u : Nat} {F : FS} {m : FM} {tm : Int32} {hb : Nat → Bool} {B : Nat → FS} (hR : wr_RC R) (ok : gOK g) (h : zM I L T fa g u F m tm hb B) (hro : ∀ s, ∃ r, F.1.2.1 s = nI r ∧ r ≤ 2000000) (x k : Int32) : wr_P l 64 mX8_till [.ref 55, .int x, .int k] SH I L R (zQm I L R (.int (aTill g F.1 x k)) T fa g u F m tm hb B) := by
  obtain ⟨c1, c2, c3, c4, c5, c6, c7, c8, c9⟩ := id h
  refine wr_V.mono (by omega) (wr_V.imp (xW_till hR g F ok c3 c5 c6 hro x k) (fun v s' I' L' R' q => ?_))
  obtain ⟨rfl, rfl, rfl, rfl, hF9, hz9, hf⟩ := q
  exact ⟨rfl, rfl, rfl, fun b hb => hf.1 b (by omega) (by omega), fun _ _ => rfl, zM_q h (fun a q => hf.1 a (by omega) (by omega)) (fun k q => hf.2 k (by omega)) rfl hF9 hz9⟩
set_option maxHeartbeats 4000000 in
set_option maxRecDepth 100000 in
theorem zm_dies {l : Launch} {I : wr_TI} {L : wr_TL} {R : wr_TR} {T : TP} {fa : Int32 × Int32} {g : RG} {u : Nat} {F : FS} {m : FM} {tm : Int32} {hb : Nat → Bool} {B : Nat → FS} (hR : wr_RC R) (ok : gOK g) (h : zM I L T fa g u F m tm hb B) : wr_P l 64 mX8_dies [.ref 55] SH I L R (zQm I L R (.int (aDies g F.1)) T fa g u F m tm hb B) := by
  obtain ⟨c1, c2, c3, c4, c5, c6, c7, c8, c9⟩ := id h
  refine wr_V.mono (by omega) (wr_V.imp (xW_dies hR g F ok c3 c5 c6) (fun v s' I' L' R' q => ?_))
  obtain ⟨rfl, rfl, rfl, rfl, hF9, hz9, hf⟩ := q
  exact ⟨rfl, rfl, rfl, fun b hb => hf.1 b (by omega) (by omega), fun _ _ => rfl, zM_q h (fun a q => hf.1 a (by omega) (by omega)) (fun k q => hf.2 k (by omega)) rfl hF9 hz9⟩
set_option maxHeartbeats 4000000 in
set_option maxRecDepth 100000 in
theorem zm_lives {l : Launch} {I : wr_TI} {L : wr_TL} {R : wr_TR} {T : TP} {fa : Int32 × Int32} {g : RG} {u : Nat} {F : FS} {m : FM} {tm : Int32} {hb : Nat → Bool} {B : Nat → FS} (hR : wr_RC R) (ok : gOK g) (h : zM I L T fa g u F m tm hb B) (x k : Int32) : wr_P l 64 mX8_lives [.ref 55, .int x, .int k] SH I L R (zQm I L R (.int (aLives g x k)) T fa g u F m tm hb B) := by
  obtain ⟨c1, c2, c3, c4, c5, c6, c7, c8, c9⟩ := id h
  refine wr_V.mono (by omega) (wr_V.imp (xW_lives hR g F ok c3 c5 c6 x k) (fun v s' I' L' R' q => ?_))
  obtain ⟨rfl, rfl, rfl, rfl, hF9, hz9, hf⟩ := q
  exact ⟨rfl, rfl, rfl, fun b hb => hf.1 b (by omega) (by omega), fun _ _ => rfl, zM_q h (fun a q => hf.1 a (by omega) (by omega)) (fun k q => hf.2 k (by omega)) rfl hF9 hz9⟩
set_option maxHeartbeats 4000000 in
set_option maxRecDepth 100000 in
theorem zm_fewest {l : Launch} {I : wr_TI} {L : wr_TL} {R : wr_TR} {T : TP} {fa : Int32 × Int32} {g : RG} {u : Nat} {F : FS} {m : FM} {tm : Int32} {hb : Nat → Bool} {B : Nat → FS} (hR : wr_RC R) (ok : gOK g) (h : zM I L T fa g u F m tm hb B) (x : Int32) : wr_P l 64 mX8_fewest [.ref 55, .int x] SH I L R (zQm I L R (.int (aFewest g x)) T fa g u F m tm hb B) := by
  obtain ⟨c1, c2, c3, c4, c5, c6, c7, c8, c9⟩ := id h
  refine wr_V.mono (by omega) (wr_V.imp (xW_fewest hR g F ok c3 c5 c6 x) (fun v s' I' L' R' q => ?_))
  obtain ⟨rfl, rfl, rfl, rfl, hF9, hz9, hf⟩ := q
  exact ⟨rfl, rfl, rfl, fun b hb => hf.1 b (by omega) (by omega), fun _ _ => rfl, zM_q h (fun a q => hf.1 a (by omega) (by omega)) (fun k q => hf.2 k (by omega)) rfl hF9 hz9⟩
set_option maxHeartbeats 4000000 in
set_option maxRecDepth 100000 in
theorem zm_best {l : Launch} {I : wr_TI} {L : wr_TL} {R : wr_TR} {T : TP} {fa : Int32 × Int32} {g : RG} {u : Nat} {F : FS} {m : FM} {tm : Int32} {hb : Nat → Bool} {B : Nat → FS} (hR : wr_RC R) (ok : gOK g) (h : zM I L T fa g u F m tm hb B) (x k : Int32) : wr_P l 64 mX8_best [.ref 55, .int x, .int k] SH I L R (zQm I L R (.int (aBest g x k)) T fa g u F m tm hb B) := by
  obtain ⟨c1, c2, c3, c4, c5, c6, c7, c8, c9⟩ := id h
  refine wr_V.mono (by omega) (wr_V.imp (xW_best hR g F ok c3 c5 c6 x k) (fun v s' I' L' R' q => ?_))
  obtain ⟨rfl, rfl, rfl, rfl, hF9, hz9, hf⟩ := q
  exact ⟨rfl, rfl, rfl, fun b hb => hf.1 b (by omega) (by omega), fun _ _ => rfl, zM_q h (fun a q => hf.1 a (by omega) (by omega)) (fun k q => hf.2 k (by omega)) rfl hF9 hz9⟩
set_option maxHeartbeats 4000000 in
set_option maxRecDepth 100000 in
theorem zm_jumps {l : Launch} {I : wr_TI} {L : wr_TL} {R : wr_TR} {T : TP} {fa : Int32 × Int32} {g : RG} {u : Nat} {F : FS} {m : FM} {tm : Int32} {hb : Nat → Bool} {B : Nat → FS} (hR : wr_RC R) (ok : gOK g) (h : zM I L T fa g u F m tm hb B) (x k y : Int32) : wr_P l 64 mX8_jumps [.ref 55, .int x, .int k, .int y] SH I L R (zQm I L R (.int (aJumps g x k y)) T fa g u F m tm hb B) := by
  obtain ⟨c1, c2, c3, c4, c5, c6, c7, c8, c9⟩ := id h
  refine wr_V.mono (by omega) (wr_V.imp (xW_jumps hR g F ok c3 c5 c6 x k y) (fun v s' I' L' R' q => ?_))
  obtain ⟨rfl, rfl, rfl, rfl, hF9, hz9, hf⟩ := q
  exact ⟨rfl, rfl, rfl, fun b hb => hf.1 b (by omega) (by omega), fun _ _ => rfl, zM_q h (fun a q => hf.1 a (by omega) (by omega)) (fun k q => hf.2 k (by omega)) rfl hF9 hz9⟩
set_option maxHeartbeats 4000000 in
set_option maxRecDepth 100000 in
theorem zm_meet {l : Launch} {I : wr_TI} {L : wr_TL} {R : wr_TR} {T : TP} {fa : Int32 × Int32} {g : RG} {u : Nat} {F : FS} {m : FM} {tm : Int32} {hb : Nat → Bool} {B : Nat → FS} (hR : wr_RC R) (ok : gOK g) (h : zM I L T fa g u F m tm hb B) (x y k : Int32) : wr_P l 64 mX8_meet [.ref 55, .int x, .int y, .int k] SH I L R (zQm I L R (.int (aMeet g x y k)) T fa g u F m tm hb B) := by
  obtain ⟨c1, c2, c3, c4, c5, c6, c7, c8, c9⟩ := id h
  refine wr_V.mono (by omega) (wr_V.imp (xW_meet hR g F ok c3 c5 c6 x y k) (fun v s' I' L' R' q => ?_))
  obtain ⟨rfl, rfl, rfl, rfl, hF9, hz9, hf⟩ := q
  exact ⟨rfl, rfl, rfl, fun b hb => hf.1 b (by omega) (by omega), fun _ _ => rfl, zM_q h (fun a q => hf.1 a (by omega) (by omega)) (fun k q => hf.2 k (by omega)) rfl hF9 hz9⟩
set_option maxHeartbeats 4000000 in
set_option maxRecDepth 100000 in
theorem zm_odds {l : Launch} {I : wr_TI} {L : wr_TL} {R : wr_TR} {T : TP} {fa : Int32 × Int32} {g : RG} {u : Nat} {F : FS} {m : FM} {tm : Int32} {hb : Nat → Bool} {B : Nat → FS} (hR : wr_RC R) (ok : gOK g) (h : zM I L T fa g u F m tm hb B) (x k : Int32) : wr_P l 64 mX8_odds [.ref 55, .int x, .int k] SH I L R (zQm I L R (.long (aOdds (gSn g) (gWd g F.1) x k)) T fa g u F m tm hb B) := by
  obtain ⟨c1, c2, c3, c4, c5, c6, c7, c8, c9⟩ := id h
  refine wr_V.mono (by omega) (wr_V.imp (xW_odds hR g F ok c3 c5 c6 x k) (fun v s' I' L' R' q => ?_))
  obtain ⟨rfl, rfl, rfl, rfl, hF9, hz9, hf⟩ := q
  exact ⟨rfl, rfl, rfl, fun b hb => hf.1 b (by omega) (by omega), fun _ _ => rfl, zM_q h (fun a q => hf.1 a (by omega) (by omega)) (fun k q => hf.2 k (by omega)) rfl hF9 hz9⟩
set_option maxHeartbeats 4000000 in
set_option maxRecDepth 100000 in
theorem zm_would {l : Launch} {I : wr_TI} {L : wr_TL} {R : wr_TR} {T : TP} {fa : Int32 × Int32} {g : RG} {u : Nat} {F : FS} {m : FM} {tm : Int32} {hb : Nat → Bool} {B : Nat → FS} (hR : wr_RC R) (ok : gOK g) (h : zM I L T fa g u F m tm hb B) : wr_P l 64 mX8_would [.ref 55] SH I L R (zQm I L R (.int (aWould g F.1)) T fa g u F m tm hb B) := by
  obtain ⟨c1, c2, c3, c4, c5, c6, c7, c8, c9⟩ := id h
  refine wr_V.mono (by omega) (wr_V.imp (xW_would hR g F.1 ok c3 c5.1 c6) (fun v s' I' L' R' q => ?_))
  obtain ⟨rfl, rfl, rfl, rfl, hf, e75, e76, e80, e55⟩ := q
  exact ⟨rfl, rfl, rfl, fun b hb => hf.1 b (by omega) (by omega), fun _ _ => rfl, zM_q h (fun a q => hf.1 a (by omega) (by omega)) (fun k q => by rw [e55]) rfl (mcF_q c5 e75 e76 e80 (fun k _ _ => by rw [e55])) (mZ_q c6 (hf.1 82 (by omega) (by omega)))⟩
set_option maxHeartbeats 4000000 in
set_option maxRecDepth 100000 in
theorem zm_tryNow {l : Launch} {I : wr_TI} {L : wr_TL} {R : wr_TR} {T : TP} {fa : Int32 × Int32} {g : RG} {u : Nat} {F : FS} {m : FM} {tm : Int32} {hb : Nat → Bool} {B : Nat → FS} (hR : wr_RC R) (ok : gOK g) (h : zM I L T fa g u F m tm hb B) : wr_P l 64 mX8_tryNow [.ref 55] SH I L R (zQm I L R (.int (aTry g F.1)) T fa g u (tryF g F) m tm hb B) := by
  obtain ⟨c1, c2, c3, c4, c5, c6, c7, c8, c9⟩ := id h
  refine wr_V.mono (by omega) (wr_V.imp (xW_tryNow hR g F.1 ok c3 c5.1) (fun v s' I' L' R' q => ?_))
  obtain ⟨rfl, rfl, rfl, rfl, hS9, hf, e80, e59⟩ := q
  exact ⟨rfl, rfl, rfl, fun b hb => hf.1 b (by omega) (by omega), fun _ _ => rfl, zM_q h (fun a q => hf.1 a (by omega) (by omega)) (fun k q => hf.2 k (by omega)) rfl ⟨hS9, by rw [e80]; exact c5.2.1, e59.trans c5.2.2⟩ (mZ_q c6 (hf.1 82 (by omega) (by omega)))⟩
set_option maxHeartbeats 4000000 in
set_option maxRecDepth 100000 in
theorem zm_run {l : Launch} {I : wr_TI} {L : wr_TL} {R : wr_TR} {T : TP} {fa : Int32 × Int32} {g : RG} {u : Nat} {F : FS} {m : FM} {tm : Int32} {hb : Nat → Bool} {B : Nat → FS} (hR : wr_RC R) (ok : gOK g) (h : zM I L T fa g u F m tm hb B) (tn : Nat) (htn : F.1.2.2.1 = nI tn) (htm : tn ≤ 1000000) (x : Int32) : wr_P l 64 mX8_run [.ref 55, .int x] SH I L R (zQm I L R (.int (aRun g F x)) T fa g u (rnF g F x) m tm hb B) := by
  obtain ⟨c1, c2, c3, c4, c5, c6, c7, c8, c9⟩ := id h
  refine wr_V.mono (by omega) (wr_V.imp (xW_run hR g F ok c3 c5 c6 tn htn htm x) (fun v s' I' L' R' q => ?_))
  obtain ⟨rfl, rfl, rfl, hf, hy, hn⟩ := q
  unfold aRun rnF
  by_cases ho : oRun F x
  · obtain ⟨rfl, hF9⟩ := hy ho
    have ho2 : 0 ≤ x ∧ x ≤ 400 ∧ x ≤ 1000000 - F.1.2.2.1 := ho
    rw [if_pos ho2, if_pos ho2]
    exact ⟨rfl, rfl, rfl, fun b hb => hf.1 b (by omega) (by omega), fun _ _ => rfl, zM_q h (fun a q => hf.1 a (by omega) (by omega)) (fun k q => hf.2 k (by omega)) rfl hF9 (mZ_q c6 (hf.1 82 (by omega) (by omega)))⟩
  · obtain ⟨rfl, rfl⟩ := hn ho
    have ho2 : ¬ (0 ≤ x ∧ x ≤ 400 ∧ x ≤ 1000000 - F.1.2.2.1) := ho
    rw [if_neg ho2, if_neg ho2]
    exact ⟨rfl, rfl, rfl, fun _ _ => rfl, fun _ _ => rfl, h⟩
set_option maxHeartbeats 4000000 in
set_option maxRecDepth 100000 in
theorem zm_feed {l : Launch} {I : wr_TI} {L : wr_TL} {R : wr_TR} {T : TP} {fa : Int32 × Int32} {g : RG} {u : Nat} {F : FS} {m : FM} {tm : Int32} {hb : Nat → Bool} {B : Nat → FS} (hR : wr_RC R) (ok : gOK g) (h : zM I L T fa g u F m tm hb B) (a b c d e : Int32) : wr_P l 64 mX8_feed [.ref 55, .int a, .int b, .int c, .int d, .int e] SH I L R (zQm I L R (.int (aFeed T a b c d e).1) (aFeed T a b c d e).2 fa g u F m tm hb B) := by
  obtain ⟨c1, c2, c3, c4, c5, c6, c7, c8, c9⟩ := id h
  refine wr_V.mono (by omega) (wr_V.imp (xW_feed hR T c1 a b c d e) (fun v s' I' L' R' q => ?_))
  obtain ⟨rfl, rfl, rfl, rfl, ht9, hf⟩ := q
  have hi : ∀ b, b ≠ 55 → b ≠ 56 → I' b = I b := fun b h1 h2 => hf.1 b h1 h2
  have hk : ∀ k, k ≠ 1 → I' 55 k = I 55 k := fun k h1 => hf.2 k h1
  exact ⟨rfl, rfl, rfl, fun b hb => hi b (by omega) (by omega), fun _ _ => rfl, zM_g h ht9 (fun k q => hk k (by omega)) (fun a q => hi a (by omega) (by omega)) (mcF_q c5 (hi 75 (by omega) (by omega)) (hi 76 (by omega) (by omega)) (hi 80 (by omega) (by omega)) (fun k k1 k2 => hk k (by omega))) (mZ_q c6 (hi 82 (by omega) (by omega))) (mfV_q c7 (hk 69 (by omega)) (hi 83 (by omega) (by omega)) (hi 84 (by omega) (by omega)) (hi 85 (by omega) (by omega)) rfl) (by rw [hk 70 (by omega)]; exact c8) (fun a a1 a2 => hi a (by omega) (by omega))⟩
set_option maxHeartbeats 4000000 in
set_option maxRecDepth 100000 in
theorem zm_end {l : Launch} {I : wr_TI} {L : wr_TL} {R : wr_TR} {T : TP} {fa : Int32 × Int32} {g : RG} {u : Nat} {F : FS} {m : FM} {tm : Int32} {hb : Nat → Bool} {B : Nat → FS} (hR : wr_RC R) (ok : gOK g) (h : zM I L T fa g u F m tm hb B) (x : Int32) : wr_P l 64 mX8_end [.ref 55, .int x] SH I L R (zQm I L R (.int (aEnd T x).1) (aEnd T x).2 fa g u F m tm hb B) := by
  obtain ⟨c1, c2, c3, c4, c5, c6, c7, c8, c9⟩ := id h
  refine wr_V.mono (by omega) (wr_V.imp (xW_end hR T c1 x) (fun v s' I' L' R' q => ?_))
  obtain ⟨rfl, rfl, rfl, rfl, ht9, hf⟩ := q
  have hi : ∀ b, b ≠ 55 → b ≠ 56 → I' b = I b := fun b h1 h2 => hf.1 b h1 h2
  have hk : ∀ k, k ≠ 1 → I' 55 k = I 55 k := fun k h1 => hf.2 k h1
  exact ⟨rfl, rfl, rfl, fun b hb => hi b (by omega) (by omega), fun _ _ => rfl, zM_g h ht9 (fun k q => hk k (by omega)) (fun a q => hi a (by omega) (by omega)) (mcF_q c5 (hi 75 (by omega) (by omega)) (hi 76 (by omega) (by omega)) (hi 80 (by omega) (by omega)) (fun k k1 k2 => hk k (by omega))) (mZ_q c6 (hi 82 (by omega) (by omega))) (mfV_q c7 (hk 69 (by omega)) (hi 83 (by omega) (by omega)) (hi 84 (by omega) (by omega)) (hi 85 (by omega) (by omega)) rfl) (by rw [hk 70 (by omega)]; exact c8) (fun a a1 a2 => hi a (by omega) (by omega))⟩
set_option maxHeartbeats 4000000 in
set_option maxRecDepth 100000 in
theorem zm_film {l : Launch} {I : wr_TI} {L : wr_TL} {R : wr_TR} {T : TP} {fa : Int32 × Int32} {g : RG} {u : Nat} {F : FS} {m : FM} {tm : Int32} {hb : Nat → Bool} {B : Nat → FS} (hR : wr_RC R) (ok : gOK g) (h : zM I L T fa g u F m tm hb B) (x : Int32) (y : Int64) : wr_P l 64 mX8_film [.ref 55, .int x, .long y] SH I L R (zQm I L R (.int (aFilm g m tm x y).1) T fa g u F (aFilm g m tm x y).2 tm hb B) := by
  obtain ⟨c1, c2, c3, c4, c5, c6, c7, c8, c9⟩ := id h
  refine wr_V.mono (by omega) (wr_V.imp (xW_film hR g c3.1 ok.1 ok.2.1 m tm c7 c8 x y) (fun v s' I' L' R' q => ?_))
  obtain ⟨rfl, rfl, rfl, hM9, ht9, hf, hl⟩ := q
  have hi : ∀ b, b ≠ 55 → b < 83 ∨ 86 ≤ b → I' b = I b := fun b h1 h2 => hf.1 b h1 (by omega)
  have hk : ∀ k, k ≠ 69 → k ≠ 70 → I' 55 k = I 55 k := fun k h1 h2 => hf.2 k (by omega)
  exact ⟨rfl, rfl, rfl, fun b hb => hi b (by omega) (by omega), fun b hb => hl b (by omega), zM_g h (mtV_q c1 (hk 1 (by omega) (by omega)) (hi 56 (by omega) (by omega))) (fun k q => hk k (by omega) (by omega)) (fun a q => hi a (by omega) (by omega)) (mcF_q c5 (hi 75 (by omega) (by omega)) (hi 76 (by omega) (by omega)) (hi 80 (by omega) (by omega)) (fun k k1 k2 => hk k (by omega) (by omega))) (mZ_q c6 (hi 82 (by omega) (by omega))) hM9 ht9 (fun a a1 a2 => hi a (by omega) (by omega))⟩
set_option maxHeartbeats 4000000 in
set_option maxRecDepth 100000 in
theorem zm_untell {l : Launch} {I : wr_TI} {L : wr_TL} {R : wr_TR} {T : TP} {fa : Int32 × Int32} {g : RG} {u : Nat} {F : FS} {m : FM} {tm : Int32} {hb : Nat → Bool} {B : Nat → FS} (hR : wr_RC R) (ok : gOK g) (h : zM I L T fa g u F m tm hb B) (hN : fmT m) (x : Int32) : wr_P l 64 mX8_untell [.ref 55, .int x] SH I L R (zQm I L R (.int (aUntell m tm x).1) T fa g u F (aUntell m tm x).2 tm hb B) := by
  obtain ⟨c1, c2, c3, c4, c5, c6, c7, c8, c9⟩ := id h
  refine wr_V.mono (by omega) (wr_V.imp (xW_untell hR m tm c7 hN c8 x) (fun v s' I' L' R' q => ?_))
  obtain ⟨rfl, rfl, rfl, hM9, ht9, hf, hl⟩ := q
  have hi : ∀ b, b ≠ 55 → b < 83 ∨ 86 ≤ b → I' b = I b := fun b h1 h2 => hf.1 b h1 (by omega)
  have hk : ∀ k, k ≠ 69 → k ≠ 70 → I' 55 k = I 55 k := fun k h1 h2 => hf.2 k (by omega)
  exact ⟨rfl, rfl, rfl, fun b hb => hi b (by omega) (by omega), fun b hb => hl b (by omega), zM_g h (mtV_q c1 (hk 1 (by omega) (by omega)) (hi 56 (by omega) (by omega))) (fun k q => hk k (by omega) (by omega)) (fun a q => hi a (by omega) (by omega)) (mcF_q c5 (hi 75 (by omega) (by omega)) (hi 76 (by omega) (by omega)) (hi 80 (by omega) (by omega)) (fun k k1 k2 => hk k (by omega) (by omega))) (mZ_q c6 (hi 82 (by omega) (by omega))) hM9 ht9 (fun a a1 a2 => hi a (by omega) (by omega))⟩
set_option maxHeartbeats 4000000 in
set_option maxRecDepth 100000 in
theorem zm_later {l : Launch} {I : wr_TI} {L : wr_TL} {R : wr_TR} {T : TP} {fa : Int32 × Int32} {g : RG} {u : Nat} {F : FS} {m : FM} {tm : Int32} {hb : Nat → Bool} {B : Nat → FS} (hR : wr_RC R) (ok : gOK g) (h : zM I L T fa g u F m tm hb B) (ht0 : 0 ≤ tm) (ht1 : tm ≤ 100000) (x : Int32) : wr_P l 64 mX8_later [.ref 55, .int x] SH I L R (zQm I L R (.int (aLater tm x).1) T fa g u F m (aLater tm x).2 hb B) := by
  obtain ⟨c1, c2, c3, c4, c5, c6, c7, c8, c9⟩ := id h
  refine wr_V.mono (by omega) (wr_V.imp (xW_later hR m tm c7 c8 ht0 ht1 x) (fun v s' I' L' R' q => ?_))
  obtain ⟨rfl, rfl, rfl, hM9, ht9, hf, hl⟩ := q
  have hi : ∀ b, b ≠ 55 → b < 83 ∨ 86 ≤ b → I' b = I b := fun b h1 h2 => hf.1 b h1 (by omega)
  have hk : ∀ k, k ≠ 69 → k ≠ 70 → I' 55 k = I 55 k := fun k h1 h2 => hf.2 k (by omega)
  exact ⟨rfl, rfl, rfl, fun b hb => hi b (by omega) (by omega), fun b hb => hl b (by omega), zM_g h (mtV_q c1 (hk 1 (by omega) (by omega)) (hi 56 (by omega) (by omega))) (fun k q => hk k (by omega) (by omega)) (fun a q => hi a (by omega) (by omega)) (mcF_q c5 (hi 75 (by omega) (by omega)) (hi 76 (by omega) (by omega)) (hi 80 (by omega) (by omega)) (fun k k1 k2 => hk k (by omega) (by omega))) (mZ_q c6 (hi 82 (by omega) (by omega))) hM9 ht9 (fun a a1 a2 => hi a (by omega) (by omega))⟩
set_option maxHeartbeats 4000000 in
set_option maxRecDepth 100000 in
theorem zm_fits {l : Launch} {I : wr_TI} {L : wr_TL} {R : wr_TR} {T : TP} {fa : Int32 × Int32} {g : RG} {u : Nat} {F : FS} {m : FM} {tm : Int32} {hb : Nat → Bool} {B : Nat → FS} (hR : wr_RC R) (ok : gOK g) (h : zM I L T fa g u F m tm hb B) (hN : fmT m) (x : Int32) : wr_P l 64 mX8_fits [.ref 55, .int x] SH I L R (zQm I L R (.int (nI (cn (fun a => fitS g a (kn m x)) 324))) T fa g u F m tm hb B) := by
  obtain ⟨c1, c2, c3, c4, c5, c6, c7, c8, c9⟩ := id h
  refine wr_V.mono (by omega) (wr_V.imp (xW_fits hR g ok c3 m x c7 hN) (fun v s' I' L' R' q => ?_))
  obtain ⟨rfl, rfl, rfl, hf, hl⟩ := q
  have hi : ∀ b, b ≠ 55 → b < 88 ∨ 93 ≤ b → I' b = I b := fun b h1 h2 => hf.1 b h1 (by omega)
  have hk : ∀ k, k ≠ 71 → I' 55 k = I 55 k := fun k h1 => hf.2 k h1
  exact ⟨rfl, rfl, rfl, fun b hb => hi b (by omega) (by omega), fun b hb => hl b (by omega), zM_q h (fun a q => hi a (by omega) (by omega)) (fun k q => hk k (by omega)) (hl 86 (by omega)) (mcF_q c5 (hi 75 (by omega) (by omega)) (hi 76 (by omega) (by omega)) (hi 80 (by omega) (by omega)) (fun k k1 k2 => hk k (by omega))) (mZ_q c6 (hi 82 (by omega) (by omega)))⟩
set_option maxHeartbeats 4000000 in
set_option maxRecDepth 100000 in
theorem zm_fit {l : Launch} {I : wr_TI} {L : wr_TL} {R : wr_TR} {T : TP} {fa : Int32 × Int32} {g : RG} {u : Nat} {F : FS} {m : FM} {tm : Int32} {hb : Nat → Bool} {B : Nat → FS} (hR : wr_RC R) (ok : gOK g) (h : zM I L T fa g u F m tm hb B) (hN : fmT m) (x k : Int32) : wr_P l 64 mX8_fit [.ref 55, .int x, .int k] SH I L R (zQm I L R (.int (aFit (fun a => fitS g a (kn m k)) x)) T fa g u F m tm hb B) := by
  obtain ⟨c1, c2, c3, c4, c5, c6, c7, c8, c9⟩ := id h
  refine wr_V.mono (by omega) (wr_V.imp (xW_fit hR g ok c3 m k c7 hN x) (fun v s' I' L' R' q => ?_))
  obtain ⟨rfl, rfl, rfl, hf, hl⟩ := q
  have hi : ∀ b, b ≠ 55 → b < 88 ∨ 93 ≤ b → I' b = I b := fun b h1 h2 => hf.1 b h1 (by omega)
  have hk : ∀ k, k ≠ 71 → I' 55 k = I 55 k := fun k h1 => hf.2 k h1
  exact ⟨rfl, rfl, rfl, fun b hb => hi b (by omega) (by omega), fun b hb => hl b (by omega), zM_q h (fun a q => hi a (by omega) (by omega)) (fun k q => hk k (by omega)) (hl 86 (by omega)) (mcF_q c5 (hi 75 (by omega) (by omega)) (hi 76 (by omega) (by omega)) (hi 80 (by omega) (by omega)) (fun k k1 k2 => hk k (by omega))) (mZ_q c6 (hi 82 (by omega) (by omega)))⟩
set_option maxHeartbeats 4000000 in
set_option maxRecDepth 100000 in
theorem zm_sure {l : Launch} {I : wr_TI} {L : wr_TL} {R : wr_TR} {T : TP} {fa : Int32 × Int32} {g : RG} {u : Nat} {F : FS} {m : FM} {tm : Int32} {hb : Nat → Bool} {B : Nat → FS} (hR : wr_RC R) (ok : gOK g) (h : zM I L T fa g u F m tm hb B) (hN : fmT m) (x y k : Int32) : wr_P l 64 mX8_sure [.ref 55, .int x, .int y, .int k] SH I L R (zQm I L R (.int (aSure g (kn m k) x y)) T fa g u F m tm hb B) := by
  obtain ⟨c1, c2, c3, c4, c5, c6, c7, c8, c9⟩ := id h
  refine wr_V.mono (by omega) (wr_V.imp (xW_sure hR g ok c3 m k c7 hN x y) (fun v s' I' L' R' q => ?_))
  obtain ⟨rfl, rfl, rfl, hf, hl⟩ := q
  have hi : ∀ b, b ≠ 55 → b < 88 ∨ 93 ≤ b → I' b = I b := fun b h1 h2 => hf.1 b h1 (by omega)
  have hk : ∀ k, k ≠ 71 → I' 55 k = I 55 k := fun k h1 => hf.2 k h1
  exact ⟨rfl, rfl, rfl, fun b hb => hi b (by omega) (by omega), fun b hb => hl b (by omega), zM_q h (fun a q => hi a (by omega) (by omega)) (fun k q => hk k (by omega)) (hl 86 (by omega)) (mcF_q c5 (hi 75 (by omega) (by omega)) (hi 76 (by omega) (by omega)) (hi 80 (by omega) (by omega)) (fun k k1 k2 => hk k (by omega))) (mZ_q c6 (hi 82 (by omega) (by omega)))⟩
set_option maxHeartbeats 4000000 in
set_option maxRecDepth 100000 in
theorem zm_same {l : Launch} {I : wr_TI} {L : wr_TL} {R : wr_TR} {T : TP} {fa : Int32 × Int32} {g : RG} {u : Nat} {F : FS} {m : FM} {tm : Int32} {hb : Nat → Bool} {B : Nat → FS} (hR : wr_RC R) (ok : gOK g) (h : zM I L T fa g u F m tm hb B) (x y : Int32) : wr_P l 64 mX8_same [.ref 55, .int x, .int y] SH I L R (zQm I L R (.int (aSame g x y)) T fa g u F m tm hb B) := by
  obtain ⟨c1, c2, c3, c4, c5, c6, c7, c8, c9⟩ := id h
  refine wr_V.mono (by omega) (wr_V.imp (xW_same hR g ok c3 x y) (fun v s' I' L' R' q => ?_))
  obtain ⟨rfl, rfl, rfl, rfl, hf⟩ := q
  have hi : ∀ b, b < 90 ∨ 93 ≤ b → I' b = I b := fun b h2 => hf b (by omega) (by omega) (by omega)
  exact ⟨rfl, rfl, rfl, fun b hb => hi b (by omega), fun _ _ => rfl, zM_q h (fun a q => hi a (by omega)) (fun k q => by rw [hi 55 (by omega)]) rfl (mcF_q c5 (hi 75 (by omega)) (hi 76 (by omega)) (hi 80 (by omega)) (fun k k1 k2 => by rw [hi 55 (by omega)])) (mZ_q c6 (hi 82 (by omega)))⟩
set_option maxHeartbeats 4000000 in
set_option maxRecDepth 100000 in
theorem zm_seed {l : Launch} {I : wr_TI} {L : wr_TL} {R : wr_TR} {T : TP} {fa : Int32 × Int32} {g : RG} {u : Nat} {F : FS} {m : FM} {tm : Int32} {hb : Nat → Bool} {B : Nat → FS} (hR : wr_RC R) (ok : gOK g) (h : zM I L T fa g u F m tm hb B) (x : Int32) : wr_P l 64 mX8_seed [.ref 55, .int x] SH I L R (zQm I L R (.int F.2.2) T fa g u (F.1, F.2.1, x) m tm hb B) := by
  obtain ⟨c1, c2, c3, c4, c5, c6, c7, c8, c9⟩ := id h
  rw [← c5.2.2]
  refine wr_V.mono (by omega) (wr_V.imp (xW_seed x) (fun v s' I' L' R' q => ?_))
  obtain ⟨rfl, rfl, rfl, rfl, rfl⟩ := q
  have hi : ∀ b, b ≠ 55 → wr_uI I 55 59 x b = I b := fun b hb => wr_uI_ne hb
  have hk : ∀ k, k ≠ 59 → wr_uI I 55 59 x 55 k = I 55 k := fun k hk => wr_uI_nk hk
  have h8 : wr_uI I 55 59 x 55 59 = x := by simp [wr_uI]
  generalize wr_uI I 55 59 x = I' at hi hk h8 ⊢
  exact ⟨rfl, rfl, rfl, fun b hb => hi b (by omega), fun _ _ => rfl, zM_q h (fun a q => hi a (by omega)) (fun k q => hk k (by omega)) rfl ⟨mcV_fr c5.1 (hi 75 (by omega)) (hi 76 (by omega)) (hk 57 (by omega)) (hk 58 (by omega)), by rw [hi 80 (by omega)]; exact c5.2.1, h8⟩ (mZ_q c6 (hi 82 (by omega)))⟩
set_option maxHeartbeats 4000000 in
set_option maxRecDepth 100000 in
theorem zm_back {l : Launch} {I : wr_TI} {L : wr_TL} {R : wr_TR} {T : TP} {fa : Int32 × Int32} {g : RG} {u : Nat} {F : FS} {m : FM} {tm : Int32} {hb : Nat → Bool} {B : Nat → FS} (hR : wr_RC R) (ok : gOK g) (h : zM I L T fa g u F m tm hb B) (x : Int32) : wr_P l 64 mX8_back [.ref 55, .int x] SH I L R (zQm I L R (.int (aBk hb B x)) T fa g u (bkF hb B F x) m tm hb B) := by
  obtain ⟨c1, c2, c3, c4, c5, c6, c7, c8, c9⟩ := id h
  refine wr_V.mono (by omega) (wr_V.imp (xW_back hR x) (fun v s' I' L' R' q => ?_))
  obtain ⟨rfl, rfl, rfl, hn, hy⟩ := q
  unfold aBk bkF
  by_cases hx : 0 ≤ x ∧ x < 3
  · obtain ⟨b, hb3, rfl⟩ := x3 hx
    have etn : tN (nI b) = b := tN_nI (by omega)
    obtain ⟨y1, y2⟩ := hy b hb3 rfl
    by_cases hh : hb b = true
    · have ho : bkO hb (nI b) = true := by unfold bkO; rw [etn, hh]; simp [hx]
      rw [if_pos ho, if_pos ho, etn]
      obtain ⟨rfl, hF9, hf⟩ := y2 (by rw [(c9 b hb3).1, hh]; decide) (B b) ((c9 b hb3).2 hh)
      exact ⟨rfl, rfl, rfl, fun a ha => hf.1 a (by omega) (by omega), fun _ _ => rfl, zM_q h (fun a q => hf.1 a (by omega) (by omega)) (fun k q => hf.2 k (by omega)) rfl hF9 (mZ_q c6 (hf.1 82 (by omega) (by omega)))⟩
    · have ho : ¬ bkO hb (nI b) = true := by unfold bkO; rw [etn]; simp [hh]
      rw [if_neg ho, if_neg ho]
      obtain ⟨rfl, rfl⟩ := y1 (by rw [(c9 b hb3).1, Bool.eq_false_iff.mpr hh]; rfl)
      exact ⟨rfl, rfl, rfl, fun _ _ => rfl, fun _ _ => rfl, h⟩
  · have ho : ¬ bkO hb x = true := by unfold bkO; simp [hx]
    rw [if_neg ho, if_neg ho]
    obtain ⟨rfl, rfl⟩ := hn hx
    exact ⟨rfl, rfl, rfl, fun _ _ => rfl, fun _ _ => rfl, h⟩
set_option maxHeartbeats 4000000 in
set_option maxRecDepth 100000 in
theorem zm_image {l : Launch} {I : wr_TI} {L : wr_TL} {R : wr_TR} {T : TP} {fa : Int32 × Int32} {g : RG} {u : Nat} {F : FS} {m : FM} {tm : Int32} {hb : Nat → Bool} {B : Nat → FS} (hR : wr_RC R) (ok : gOK g) (h : zM I L T fa g u F m tm hb B) (x : Int32) : wr_P l 64 mX8_image [.ref 55, .int x] SH I L R (zQm I L R (.int (aIm F x)) T fa g u F m tm (imH hb x) (imB F B x)) := by
  obtain ⟨c1, c2, c3, c4, c5, c6, c7, c8, c9⟩ := id h
  refine wr_V.mono (by omega) (wr_V.imp (xW_image hR F c5 x) (fun v s' I' L' R' q => ?_))
  obtain ⟨rfl, rfl, rfl, hn, hy⟩ := q
  unfold aIm
  by_cases hx : 0 ≤ x ∧ x < 3
  · rw [if_pos hx]
    obtain ⟨b, hb3, rfl⟩ := x3 hx
    obtain ⟨rfl, hB, e93, hoB, ho93, hf⟩ := hy b hb3 rfl
    have hi : ∀ a, a < 93 → I' a = I a := fun a ha => hf a (Or.inl ha)
    refine ⟨rfl, rfl, rfl, fun a ha => hi a (by omega), fun _ _ => rfl, mtV_q c1 (by rw [hi 55 (by omega)]) (hi 56 (by omega)), by rw [hi 55 (by omega)]; exact c2, mgV_fr c3 (fun k _ => by rw [hi 55 (by omega)]) (fun a q => hi a (by omega)), by rw [hi 55 (by omega)]; exact c4, mcF_q c5 (hi 75 (by omega)) (hi 76 (by omega)) (hi 80 (by omega)) (fun k _ _ => by rw [hi 55 (by omega)]), mZ_q c6 (hi 82 (by omega)), mfV_q c7 (by rw [hi 55 (by omega)]) (hi 83 (by omega)) (hi 84 (by omega)) (hi 85 (by omega)) rfl, by rw [hi 55 (by omega)]; exact c8, fun c hc3 => ?_⟩
    by_cases e : c = b
    · subst e
      have h1 : imH hb (nI c) c = true := by simp [imH, hc3]
      have h2 : imB F B (nI c) c = F := by simp [imB, hc3]
      rw [e93, h1, h2]
      exact ⟨rfl, fun _ => hB⟩
    · have ne : ¬ (nI b = nI c ∧ c < 3) := fun z => e ((nI_eq (by omega) (by omega)).mp z.1).symm
      have h1 : imH hb (nI b) c = hb c := by unfold imH; rw [if_neg ne]
      have h2 : imB F B (nI b) c = B c := by unfold imB; rw [if_neg ne]
      rw [ho93 c e, h1, h2]
      exact ⟨(c9 c hc3).1, fun hh => hoB c (B c) e ((c9 c hc3).2 hh)⟩
  · rw [if_neg hx]
    obtain ⟨rfl, rfl⟩ := hn hx
    have ne : ∀ c, ¬ (x = nI c ∧ c < 3) := fun c z => hx (by rw [z.1]; exact x3n z.2)
    have h1 : imH hb x = hb := by funext c; unfold imH; rw [if_neg (ne c)]
    have h2 : imB F B x = B := by funext c; unfold imB; rw [if_neg (ne c)]
    rw [h1, h2]
    exact ⟨rfl, rfl, rfl, fun _ _ => rfl, fun _ _ => rfl, h⟩
