/-! the law's two sides: one state of both, and each call's step, on the class's side -/
def fOK (n : Nat) (F : FS) : Prop := ∃ tn, tn ≤ 1000000 ∧ F.1.2.2.1 = nI tn ∧ ∀ s, ∃ r, F.1.2.1 s = nI r ∧ r ≤ tn + n
def zC (I : wr_TI) (L : wr_TL) (t : Nat) (T : TP) (fa : Int32 × Int32) (g : RG) (u : Nat) (F : FS) (m : FM) (tm : Int32) (hb : Nat → Bool) (B : Nat → FS) : Prop := tpV I T ∧ (I 17 9 = fa.1 ∧ I 17 10 = fa.2) ∧ rgV I L t g ∧ I (t + 1) 3 = nI u ∧ crF I L 18 g F ∧ fmV I L m ∧ I 30 7 = tm ∧ ∀ b, b < 3 → I 29 b = bI (hb b) ∧ (hb b = true → crF I L (40 + 5 * b) g (B b))
def zM (I : wr_TI) (L : wr_TL) (T : TP) (fa : Int32 × Int32) (g : RG) (u : Nat) (F : FS) (m : FM) (tm : Int32) (hb : Nat → Bool) (B : Nat → FS) : Prop := mtV I T ∧ (I 55 2 = fa.1 ∧ I 55 3 = fa.2) ∧ mgV I g ∧ I 55 46 = nI u ∧ mcF I F ∧ mZ I ∧ mfV I L m ∧ I 55 70 = tm ∧ ∀ b, b < 3 → I 93 b = bI (hb b) ∧ (hb b = true → mBx I b (B b))
def zP (n : Nat) (T : TP) (fa : Int32 × Int32) (g : RG) (u : Nat) (F : FS) (m : FM) (tm : Int32) (hb : Nat → Bool) (B : Nat → FS) : Prop := (∀ i, i < T.1 → 0 ≤ T.2 i) ∧ fOK n F ∧ fmT m ∧ fmU g m ∧ (0 ≤ tm ∧ tm ≤ 100000) ∧ ∀ b, b < 3 → hb b = true → fOK n (B b)
def zT (R : wr_TR) (t : Nat) : Prop := (t = 3 ∧ R 0 1 = 4 ∧ R 0 2 = 11) ∨ (t = 10 ∧ R 0 1 = 11 ∧ R 0 2 = 4)
def zK (I : wr_TI) (L : wr_TL) (R : wr_TR) (t : Nat) (T : TP) (fa : Int32 × Int32) (g : RG) (u : Nat) (F : FS) (m : FM) (tm : Int32) (hb : Nat → Bool) (B : Nat → FS) : Prop := wr_RC R ∧ zT R t ∧ zC I L t T fa g u F m tm hb B
def zQc (I : wr_TI) (L : wr_TL) (a : Value) (T : TP) (fa : Int32 × Int32) (g : RG) (u : Nat) (F : FS) (m : FM) (tm : Int32) (hb : Nat → Bool) (B : Nat → FS) : wr_TQ := fun v s' I' L' R' => v = some a ∧ s' = SH ∧ (∀ b, 55 ≤ b → I' b = I b) ∧ (∀ b, 55 ≤ b → L' b = L b) ∧ ∃ t, zK I' L' R' t T fa g u F m tm hb B
theorem zT_t {R : wr_TR} {t : Nat} (h : zT R t) : (t = 3 ∨ t = 10) ∧ R 0 1 = t + 1 := by
  rcases h with ⟨rfl, h1, -⟩ | ⟨rfl, h1, -⟩
  · exact ⟨Or.inl rfl, h1⟩
  · exact ⟨Or.inr rfl, h1⟩
theorem crF_q {I I' : wr_TI} {L L' : wr_TL} {c : Nat} {g : RG} {F : FS} (h : crF I L c g F) (h0 : I' c = I c) (h1 : I' (c + 1) = I (c + 1)) (h2 : I' (c + 2) = I (c + 2)) (h3 : I' (c + 3) = I (c + 3)) (hL : L' c = L c) : crF I' L' c g F := by
  unfold crF crV at h ⊢
  rw [h0, h1, h2, h3, hL]
  exact h
theorem zC_g {I I' : wr_TI} {L L' : wr_TL} {t : Nat} {T : TP} {fa : Int32 × Int32} {g : RG} {u : Nat} {F : FS} {m : FM} {tm : Int32} {hb : Nat → Bool} {B : Nat → FS} {T' : TP} {F' : FS} {m' : FM} {tm' : Int32} (h : zC I L t T fa g u F m tm hb B) (hT' : tpV I' T') (hfa : I' 17 = I 17) (hr : ∀ a, t ≤ a → a ≤ t + 6 → a ≠ t + 3 → I' a = I a) (hLt : L' t = L t) (hF' : crF I' L' 18 g F') (hm' : fmV I' L' m') (htm : I' 30 7 = tm') (hbx : ∀ a, a = 29 ∨ (40 ≤ a ∧ a < 55) → I' a = I a) (hLb : ∀ a, 40 ≤ a → a < 55 → L' a = L a) : zC I' L' t T' fa g u F' m' tm' hb B := by
  obtain ⟨c1, c2, c3, c4, c5, c6, c7, c8⟩ := h
  refine ⟨hT', by rw [hfa]; exact c2, rgV_fr c3 hr hLt, by rw [hr (t + 1) (by omega) (by omega) (by omega)]; exact c4, hF', hm', htm, fun b hb3 => ⟨?_, fun hh => ?_⟩⟩
  · rw [hbx 29 (Or.inl rfl)]; exact (c8 b hb3).1
  · exact crF_q ((c8 b hb3).2 hh) (hbx _ (by omega)) (hbx _ (by omega)) (hbx _ (by omega)) (hbx _ (by omega)) (hLb _ (by omega) (by omega))
theorem zC_q {I I' : wr_TI} {L L' : wr_TL} {t : Nat} {T : TP} {fa : Int32 × Int32} {g : RG} {u : Nat} {F : FS} {m : FM} {tm : Int32} {hb : Nat → Bool} {B : Nat → FS} (ht : t = 3 ∨ t = 10) (h : zC I L t T fa g u F m tm hb B) (hI : ∀ a, a < 55 → a ≠ t + 3 → (a < 22 ∨ 28 ≤ a) → a ≠ 30 → a ≠ 35 → a ≠ 37 → a ≠ 38 → I' a = I a) (h6 : I' 30 6 = I 30 6) (h7 : I' 30 7 = I 30 7) (hL : ∀ a, a < 55 → (a < 22 ∨ 28 ≤ a) → a ≠ 36 → a ≠ 37 → a ≠ 38 → a ≠ 39 → L' a = L a) : zC I' L' t T fa g u F m tm hb B := by
  have hi : ∀ a, a < 55 → a ≠ t + 3 → (a < 22 ∨ 28 ≤ a) → ¬ (a = 30 ∨ a = 35 ∨ a = 37 ∨ a = 38) → I' a = I a := fun a a1 a2 a3 a4 => hI a a1 a2 a3 (by omega) (by omega) (by omega) (by omega)
  refine zC_g h (tpV_fr h.1 (hi 1 (by omega) (by omega) (by omega) (by omega)) (hi 2 (by omega) (by omega) (by omega) (by omega))) (hi 17 (by omega) (by omega) (by omega) (by omega)) (fun a a1 a2 a3 => hi a (by omega) a3 (by omega) (by omega)) (hL t (by omega) (by omega) (by omega) (by omega) (by omega) (by omega)) (crF_q h.2.2.2.2.1 (hi 18 (by omega) (by omega) (by omega) (by omega)) (hi (18 + 1) (by omega) (by omega) (by omega) (by omega)) (hi (18 + 2) (by omega) (by omega) (by omega) (by omega)) (hi (18 + 3) (by omega) (by omega) (by omega) (by omega)) (hL 18 (by omega) (by omega) (by omega) (by omega) (by omega) (by omega))) (fmV_fr h.2.2.2.2.2.1 h6 (hi 31 (by omega) (by omega) (by omega) (by omega)) (hi 33 (by omega) (by omega) (by omega) (by omega)) (hi 34 (by omega) (by omega) (by omega) (by omega)) (hL 32 (by omega) (by omega) (by omega) (by omega) (by omega) (by omega))) (h7.trans h.2.2.2.2.2.2.1) (fun a ha => hi a (by omega) (by omega) (by omega) (by omega)) (fun a a1 a2 => hL a (by omega) (by omega) (by omega) (by omega) (by omega) (by omega))
def aAbout (T : TP) (g : RG) (u : Nat) (F : FS) (m : FM) (tm what : Int32) : Int32 := if what = 0 then nI (gN g) else if what = 1 then F.1.2.2.1 else if what = 2 then F.1.2.2.2 else if what = 3 then nI (upn g F.1) else if what = 4 then nI m.1 else if what = 5 then tm else if what = 6 then nI T.1 else if what = 7 then F.2.2 else if what = 8 then nI u else -1
def aIm (F : FS) (x : Int32) : Int32 := if 0 ≤ x ∧ x < 3 then F.1.2.2.1 else -1
def imB (F : FS) (B : Nat → FS) (x : Int32) : Nat → FS := fun b => if x = nI b ∧ b < 3 then F else B b
def imH (hb : Nat → Bool) (x : Int32) : Nat → Bool := fun b => if x = nI b ∧ b < 3 then true else hb b
def bkO (hb : Nat → Bool) (x : Int32) : Bool := decide (0 ≤ x ∧ x < 3) && hb (tN x)
def aBk (hb : Nat → Bool) (B : Nat → FS) (x : Int32) : Int32 := if bkO hb x = true then (B (tN x)).1.2.2.1 else -1
def bkF (hb : Nat → Bool) (B : Nat → FS) (F : FS) (x : Int32) : FS := if bkO hb x = true then B (tN x) else F
theorem x3 {x : Int32} (h : 0 ≤ x ∧ x < 3) : ∃ b, b < 3 ∧ x = nI b := by
  obtain ⟨b, h1, h2⟩ := nI_of2 (n := 2) (M := 2) (by decide) (Int32.not_lt.mpr h.1) (by
    have := h.2
    rw [Int32.lt_iff_toInt_lt] at this
    rw [Int32.le_iff_toInt_le]
    have e3 : (3 : Int32).toInt = 3 := by decide
    have e2 : (2 : Int32).toInt = 2 := by decide
    omega)
  exact ⟨b, by omega, h2⟩
theorem x3n {b : Nat} (h : b < 3) : 0 ≤ nI b ∧ nI b < 3 := ⟨nI_pos' (by omega), nI_lt (b := 3) h (by omega)⟩
set_option maxHeartbeats 4000000 in
set_option maxRecDepth 100000 in
theorem zc_fault {l : Launch} {I : wr_TI} {L : wr_TL} {R : wr_TR} {t : Nat} {T : TP} {fa : Int32 × Int32} {g : RG} {u : Nat} {F : FS} {m : FM} {tm : Int32} {hb : Nat → Bool} {B : Nat → FS} (h : zK I L R t T fa g u F m tm hb B) (x : Int32) : wr_P l 64 mX7_fault [.ref 0, .int x] SH I L R (zQc I L (.int (aFault fa.1 fa.2 x)) T fa g u F m tm hb B) := by
  obtain ⟨hR, hT, hC⟩ := h
  obtain ⟨ht, hto⟩ := zT_t hT
  obtain ⟨c1, c2, c3, c4, c5, c6, c7, c8⟩ := id hC
  rw [← c2.1, ← c2.2]
  refine wr_V.mono (by omega) (wr_V.imp (cW_fault hR x) (fun v s' I' L' R' q => ?_))
  obtain ⟨rfl, rfl, rfl, rfl, rfl⟩ := q
  exact ⟨rfl, rfl, fun _ _ => rfl, fun _ _ => rfl, t, hR, hT, (by first | exact hC | (rw [c7]; exact hC))⟩
set_option maxHeartbeats 4000000 in
set_option maxRecDepth 100000 in
theorem zc_seat {l : Launch} {I : wr_TI} {L : wr_TL} {R : wr_TR} {t : Nat} {T : TP} {fa : Int32 × Int32} {g : RG} {u : Nat} {F : FS} {m : FM} {tm : Int32} {hb : Nat → Bool} {B : Nat → FS} (h : zK I L R t T fa g u F m tm hb B) (x what : Int32) : wr_P l 64 mX7_seat [.ref 0, .int x, .int what] SH I L R (zQc I L (.int (aSeat g F.1 x what)) T fa g u F m tm hb B) := by
  obtain ⟨hR, hT, hC⟩ := h
  obtain ⟨ht, hto⟩ := zT_t hT
  obtain ⟨c1, c2, c3, c4, c5, c6, c7, c8⟩ := id hC
  refine wr_V.mono (by omega) (wr_V.imp (cW_seat hR t ht hto g c3 F c5 x what) (fun v s' I' L' R' q => ?_))
  obtain ⟨rfl, rfl, rfl, rfl, rfl⟩ := q
  exact ⟨rfl, rfl, fun _ _ => rfl, fun _ _ => rfl, t, hR, hT, (by first | exact hC | (rw [c7]; exact hC))⟩
set_option maxHeartbeats 4000000 in
set_option maxRecDepth 100000 in
theorem zc_way {l : Launch} {I : wr_TI} {L : wr_TL} {R : wr_TR} {t : Nat} {T : TP} {fa : Int32 × Int32} {g : RG} {u : Nat} {F : FS} {m : FM} {tm : Int32} {hb : Nat → Bool} {B : Nat → FS} (h : zK I L R t T fa g u F m tm hb B) (x : Int32) : wr_P l 64 mX7_way [.ref 0, .int x] SH I L R (zQc I L (.int (aWay F x)) T fa g u F m tm hb B) := by
  obtain ⟨hR, hT, hC⟩ := h
  obtain ⟨ht, hto⟩ := zT_t hT
  obtain ⟨c1, c2, c3, c4, c5, c6, c7, c8⟩ := id hC
  refine wr_V.mono (by omega) (wr_V.imp (cW_way hR t ht hto g c3 F c5 x) (fun v s' I' L' R' q => ?_))
  obtain ⟨rfl, rfl, rfl, rfl, rfl⟩ := q
  exact ⟨rfl, rfl, fun _ _ => rfl, fun _ _ => rfl, t, hR, hT, (by first | exact hC | (rw [c7]; exact hC))⟩
set_option maxHeartbeats 4000000 in
set_option maxRecDepth 100000 in
theorem zc_wide {l : Launch} {I : wr_TI} {L : wr_TL} {R : wr_TR} {t : Nat} {T : TP} {fa : Int32 × Int32} {g : RG} {u : Nat} {F : FS} {m : FM} {tm : Int32} {hb : Nat → Bool} {B : Nat → FS} (h : zK I L R t T fa g u F m tm hb B) : wr_P l 64 mX7_wide [.ref 0] SH I L R (zQc I L (.int (aWide g F.1)) T fa g u F m tm hb B) := by
  obtain ⟨hR, hT, hC⟩ := h
  obtain ⟨ht, hto⟩ := zT_t hT
  obtain ⟨c1, c2, c3, c4, c5, c6, c7, c8⟩ := id hC
  refine wr_V.mono (by omega) (wr_V.imp (cW_wide hR t ht hto g c3 F c5) (fun v s' I' L' R' q => ?_))
  obtain ⟨rfl, rfl, rfl, rfl, rfl⟩ := q
  exact ⟨rfl, rfl, fun _ _ => rfl, fun _ _ => rfl, t, hR, hT, (by first | exact hC | (rw [c7]; exact hC))⟩
set_option maxHeartbeats 4000000 in
set_option maxRecDepth 100000 in
theorem zc_waves {l : Launch} {I : wr_TI} {L : wr_TL} {R : wr_TR} {t : Nat} {T : TP} {fa : Int32 × Int32} {g : RG} {u : Nat} {F : FS} {m : FM} {tm : Int32} {hb : Nat → Bool} {B : Nat → FS} (h : zK I L R t T fa g u F m tm hb B) : wr_P l 64 mX7_waves [.ref 0] SH I L R (zQc I L (.int (wvA (gN g) (uS F.1))) T fa g u F m tm hb B) := by
  obtain ⟨hR, hT, hC⟩ := h
  obtain ⟨ht, hto⟩ := zT_t hT
  obtain ⟨c1, c2, c3, c4, c5, c6, c7, c8⟩ := id hC
  refine wr_V.mono (by omega) (wr_V.imp (cW_waves hR t ht hto g c3 F c5) (fun v s' I' L' R' q => ?_))
  obtain ⟨rfl, rfl, rfl, rfl, rfl⟩ := q
  exact ⟨rfl, rfl, fun _ _ => rfl, fun _ _ => rfl, t, hR, hT, (by first | exact hC | (rw [c7]; exact hC))⟩
set_option maxHeartbeats 4000000 in
set_option maxRecDepth 100000 in
theorem zc_about {l : Launch} {I : wr_TI} {L : wr_TL} {R : wr_TR} {t : Nat} {T : TP} {fa : Int32 × Int32} {g : RG} {u : Nat} {F : FS} {m : FM} {tm : Int32} {hb : Nat → Bool} {B : Nat → FS} (h : zK I L R t T fa g u F m tm hb B) (x : Int32) : wr_P l 64 mX7_about [.ref 0, .int x] SH I L R (zQc I L (.int (aAbout T g u F m tm x)) T fa g u F m tm hb B) := by
  obtain ⟨hR, hT, hC⟩ := h
  obtain ⟨ht, hto⟩ := zT_t hT
  obtain ⟨c1, c2, c3, c4, c5, c6, c7, c8⟩ := id hC
  unfold aAbout
  rw [← c6.1, ← c7, ← c1.1, ← c4]
  refine wr_V.mono (by omega) (wr_V.imp (cW_about hR t ht hto g c3 F c5 x) (fun v s' I' L' R' q => ?_))
  obtain ⟨rfl, rfl, rfl, rfl, rfl⟩ := q
  exact ⟨rfl, rfl, fun _ _ => rfl, fun _ _ => rfl, t, hR, hT, (by first | exact hC | (rw [c7]; exact hC))⟩
set_option maxHeartbeats 4000000 in
set_option maxRecDepth 100000 in
theorem zc_till {l : Launch} {I : wr_TI} {L : wr_TL} {R : wr_TR} {t : Nat} {T : TP} {fa : Int32 × Int32} {g : RG} {u : Nat} {F : FS} {m : FM} {tm : Int32} {hb : Nat → Bool} {B : Nat → FS} (h : zK I L R t T fa g u F m tm hb B) (x k : Int32) : wr_P l 64 mX7_till [.ref 0, .int x, .int k] SH I L R (zQc I L (.int (aTill g F.1 x k)) T fa g u F m tm hb B) := by
  obtain ⟨hR, hT, hC⟩ := h
  obtain ⟨ht, hto⟩ := zT_t hT
  obtain ⟨c1, c2, c3, c4, c5, c6, c7, c8⟩ := id hC
  refine wr_V.mono (by omega) (wr_V.imp (cW_till hR t ht hto g c3 F c5 x k) (fun v s' I' L' R' q => ?_))
  obtain ⟨rfl, rfl, rfl, hf⟩ := q
  exact ⟨rfl, rfl, fun b hb => hf.1 b (by omega) (by omega), fun b hb => hf.2 b (by omega), t, hR, hT, zC_q ht hC (fun a a1 a2 a3 _ _ _ _ => hf.1 a (by omega) a2) (by rw [hf.1 30 (by omega) (by omega)]) (by rw [hf.1 30 (by omega) (by omega)]) (fun a a1 a2 _ _ _ _ => hf.2 a (by omega))⟩
set_option maxHeartbeats 4000000 in
set_option maxRecDepth 100000 in
theorem zc_dies {l : Launch} {I : wr_TI} {L : wr_TL} {R : wr_TR} {t : Nat} {T : TP} {fa : Int32 × Int32} {g : RG} {u : Nat} {F : FS} {m : FM} {tm : Int32} {hb : Nat → Bool} {B : Nat → FS} (h : zK I L R t T fa g u F m tm hb B) : wr_P l 64 mX7_dies [.ref 0] SH I L R (zQc I L (.int (aDies g F.1)) T fa g u F m tm hb B) := by
  obtain ⟨hR, hT, hC⟩ := h
  obtain ⟨ht, hto⟩ := zT_t hT
  obtain ⟨c1, c2, c3, c4, c5, c6, c7, c8⟩ := id hC
  refine wr_V.mono (by omega) (wr_V.imp (cW_dies hR t ht hto g c3 F c5) (fun v s' I' L' R' q => ?_))
  obtain ⟨rfl, rfl, rfl, hf⟩ := q
  exact ⟨rfl, rfl, fun b hb => hf.1 b (by omega) (by omega), fun b hb => hf.2 b (by omega), t, hR, hT, zC_q ht hC (fun a a1 a2 a3 _ _ _ _ => hf.1 a (by omega) a2) (by rw [hf.1 30 (by omega) (by omega)]) (by rw [hf.1 30 (by omega) (by omega)]) (fun a a1 a2 _ _ _ _ => hf.2 a (by omega))⟩
set_option maxHeartbeats 4000000 in
set_option maxRecDepth 100000 in
theorem zc_lives {l : Launch} {I : wr_TI} {L : wr_TL} {R : wr_TR} {t : Nat} {T : TP} {fa : Int32 × Int32} {g : RG} {u : Nat} {F : FS} {m : FM} {tm : Int32} {hb : Nat → Bool} {B : Nat → FS} (h : zK I L R t T fa g u F m tm hb B) (x k : Int32) : wr_P l 64 mX7_lives [.ref 0, .int x, .int k] SH I L R (zQc I L (.int (aLives g x k)) T fa g u F m tm hb B) := by
  obtain ⟨hR, hT, hC⟩ := h
  obtain ⟨ht, hto⟩ := zT_t hT
  obtain ⟨c1, c2, c3, c4, c5, c6, c7, c8⟩ := id hC
  refine wr_V.mono (by omega) (wr_V.imp (cW_lives hR t ht hto g c3 x k) (fun v s' I' L' R' q => ?_))
  obtain ⟨rfl, rfl, rfl, hf⟩ := q
  exact ⟨rfl, rfl, fun b hb => hf.1 b (by omega) (by omega), fun b hb => hf.2 b (by omega), t, hR, hT, zC_q ht hC (fun a a1 a2 a3 _ _ _ _ => hf.1 a (by omega) a2) (by rw [hf.1 30 (by omega) (by omega)]) (by rw [hf.1 30 (by omega) (by omega)]) (fun a a1 a2 _ _ _ _ => hf.2 a (by omega))⟩
set_option maxHeartbeats 4000000 in
set_option maxRecDepth 100000 in
theorem zc_fewest {l : Launch} {I : wr_TI} {L : wr_TL} {R : wr_TR} {t : Nat} {T : TP} {fa : Int32 × Int32} {g : RG} {u : Nat} {F : FS} {m : FM} {tm : Int32} {hb : Nat → Bool} {B : Nat → FS} (h : zK I L R t T fa g u F m tm hb B) (x : Int32) : wr_P l 64 mX7_fewest [.ref 0, .int x] SH I L R (zQc I L (.int (aFewest g x)) T fa g u F m tm hb B) := by
  obtain ⟨hR, hT, hC⟩ := h
  obtain ⟨ht, hto⟩ := zT_t hT
  obtain ⟨c1, c2, c3, c4, c5, c6, c7, c8⟩ := id hC
  refine wr_V.mono (by omega) (wr_V.imp (cW_fewest hR t ht hto g c3 x) (fun v s' I' L' R' q => ?_))
  obtain ⟨rfl, rfl, rfl, hf⟩ := q
  exact ⟨rfl, rfl, fun b hb => hf.1 b (by omega) (by omega), fun b hb => hf.2 b (by omega), t, hR, hT, zC_q ht hC (fun a a1 a2 a3 _ _ _ _ => hf.1 a (by omega) a2) (by rw [hf.1 30 (by omega) (by omega)]) (by rw [hf.1 30 (by omega) (by omega)]) (fun a a1 a2 _ _ _ _ => hf.2 a (by omega))⟩
set_option maxHeartbeats 4000000 in
set_option maxRecDepth 100000 in
theorem zc_best {l : Launch} {I : wr_TI} {L : wr_TL} {R : wr_TR} {t : Nat} {T : TP} {fa : Int32 × Int32} {g : RG} {u : Nat} {F : FS} {m : FM} {tm : Int32} {hb : Nat → Bool} {B : Nat → FS} (h : zK I L R t T fa g u F m tm hb B) (x k : Int32) : wr_P l 64 mX7_best [.ref 0, .int x, .int k] SH I L R (zQc I L (.int (aBest g x k)) T fa g u F m tm hb B) := by
  obtain ⟨hR, hT, hC⟩ := h
  obtain ⟨ht, hto⟩ := zT_t hT
  obtain ⟨c1, c2, c3, c4, c5, c6, c7, c8⟩ := id hC
  refine wr_V.mono (by omega) (wr_V.imp (cW_best hR t ht hto g c3 x k) (fun v s' I' L' R' q => ?_))
  obtain ⟨rfl, rfl, rfl, hf⟩ := q
  exact ⟨rfl, rfl, fun b hb => hf.1 b (by omega) (by omega), fun b hb => hf.2 b (by omega), t, hR, hT, zC_q ht hC (fun a a1 a2 a3 _ _ _ _ => hf.1 a (by omega) a2) (by rw [hf.1 30 (by omega) (by omega)]) (by rw [hf.1 30 (by omega) (by omega)]) (fun a a1 a2 _ _ _ _ => hf.2 a (by omega))⟩
set_option maxHeartbeats 4000000 in
set_option maxRecDepth 100000 in
theorem zc_jumps {l : Launch} {I : wr_TI} {L : wr_TL} {R : wr_TR} {t : Nat} {T : TP} {fa : Int32 × Int32} {g : RG} {u : Nat} {F : FS} {m : FM} {tm : Int32} {hb : Nat → Bool} {B : Nat → FS} (h : zK I L R t T fa g u F m tm hb B) (x k y : Int32) : wr_P l 64 mX7_jumps [.ref 0, .int x, .int k, .int y] SH I L R (zQc I L (.int (aJumps g x k y)) T fa g u F m tm hb B) := by
  obtain ⟨hR, hT, hC⟩ := h
  obtain ⟨ht, hto⟩ := zT_t hT
  obtain ⟨c1, c2, c3, c4, c5, c6, c7, c8⟩ := id hC
  refine wr_V.mono (by omega) (wr_V.imp (cW_jumps hR t ht hto g c3 x k y) (fun v s' I' L' R' q => ?_))
  obtain ⟨rfl, rfl, rfl, hf⟩ := q
  exact ⟨rfl, rfl, fun b hb => hf.1 b (by omega) (by omega), fun b hb => hf.2 b (by omega), t, hR, hT, zC_q ht hC (fun a a1 a2 a3 _ _ _ _ => hf.1 a (by omega) a2) (by rw [hf.1 30 (by omega) (by omega)]) (by rw [hf.1 30 (by omega) (by omega)]) (fun a a1 a2 _ _ _ _ => hf.2 a (by omega))⟩
set_option maxHeartbeats 4000000 in
set_option maxRecDepth 100000 in
theorem zc_meet {l : Launch} {I : wr_TI} {L : wr_TL} {R : wr_TR} {t : Nat} {T : TP} {fa : Int32 × Int32} {g : RG} {u : Nat} {F : FS} {m : FM} {tm : Int32} {hb : Nat → Bool} {B : Nat → FS} (h : zK I L R t T fa g u F m tm hb B) (x y k : Int32) : wr_P l 64 mX7_meet [.ref 0, .int x, .int y, .int k] SH I L R (zQc I L (.int (aMeet g x y k)) T fa g u F m tm hb B) := by
  obtain ⟨hR, hT, hC⟩ := h
  obtain ⟨ht, hto⟩ := zT_t hT
  obtain ⟨c1, c2, c3, c4, c5, c6, c7, c8⟩ := id hC
  refine wr_V.mono (by omega) (wr_V.imp (cW_meet hR t ht hto g c3 x y k) (fun v s' I' L' R' q => ?_))
  obtain ⟨rfl, rfl, rfl, hf⟩ := q
  exact ⟨rfl, rfl, fun b hb => hf.1 b (by omega) (by omega), fun b hb => hf.2 b (by omega), t, hR, hT, zC_q ht hC (fun a a1 a2 a3 _ _ _ _ => hf.1 a (by omega) a2) (by rw [hf.1 30 (by omega) (by omega)]) (by rw [hf.1 30 (by omega) (by omega)]) (fun a a1 a2 _ _ _ _ => hf.2 a (by omega))⟩
set_option maxHeartbeats 4000000 in
set_option maxRecDepth 100000 in
theorem zc_would {l : Launch} {I : wr_TI} {L : wr_TL} {R : wr_TR} {t : Nat} {T : TP} {fa : Int32 × Int32} {g : RG} {u : Nat} {F : FS} {m : FM} {tm : Int32} {hb : Nat → Bool} {B : Nat → FS} (h : zK I L R t T fa g u F m tm hb B) : wr_P l 64 mX7_would [.ref 0] SH I L R (zQc I L (.int (aWould g F.1)) T fa g u F m tm hb B) := by
  obtain ⟨hR, hT, hC⟩ := h
  obtain ⟨ht, hto⟩ := zT_t hT
  obtain ⟨c1, c2, c3, c4, c5, c6, c7, c8⟩ := id hC
  refine wr_V.mono (by omega) (wr_V.imp (cW_would hR t ht hto g c3 F c5) (fun v s' I' L' R' q => ?_))
  obtain ⟨rfl, rfl, rfl, rfl, hf⟩ := q
  exact ⟨rfl, rfl, fun b hb => hf b (by omega) (by omega), fun _ _ => rfl, t, hR, hT, zC_q ht hC (fun a a1 a2 a3 _ _ _ _ => hf a (by omega) a2) (by rw [hf 30 (by omega) (by omega)]) (by rw [hf 30 (by omega) (by omega)]) (fun a a1 a2 _ _ _ _ => rfl)⟩
set_option maxHeartbeats 4000000 in
set_option maxRecDepth 100000 in
theorem zc_odds {l : Launch} {I : wr_TI} {L : wr_TL} {R : wr_TR} {t : Nat} {T : TP} {fa : Int32 × Int32} {g : RG} {u : Nat} {F : FS} {m : FM} {tm : Int32} {hb : Nat → Bool} {B : Nat → FS} (h : zK I L R t T fa g u F m tm hb B) (x k : Int32) : wr_P l 64 mX7_odds [.ref 0, .int x, .int k] SH I L R (zQc I L (.long (aOdds (gSn g) (gWd g F.1) x k)) T fa g u F m tm hb B) := by
  obtain ⟨hR, hT, hC⟩ := h
  obtain ⟨ht, hto⟩ := zT_t hT
  obtain ⟨c1, c2, c3, c4, c5, c6, c7, c8⟩ := id hC
  refine wr_V.mono (by omega) (wr_V.imp (cW_odds hR t ht hto g c3 F c5 x k) (fun v s' I' L' R' q => ?_))
  obtain ⟨rfl, rfl, rfl, hf, hl⟩ := q
  exact ⟨rfl, rfl, fun b hb => hf b (by omega) (by omega), fun b hb => hl b (by omega), t, hR, hT, zC_q ht hC (fun a a1 a2 a3 _ _ _ _ => hf a (by omega) a2) (by rw [hf 30 (by omega) (by omega)]) (by rw [hf 30 (by omega) (by omega)]) (fun a a1 a2 _ _ _ a6 => hl a a6)⟩
set_option maxHeartbeats 4000000 in
set_option maxRecDepth 100000 in
theorem zc_feed {l : Launch} {I : wr_TI} {L : wr_TL} {R : wr_TR} {t : Nat} {T : TP} {fa : Int32 × Int32} {g : RG} {u : Nat} {F : FS} {m : FM} {tm : Int32} {hb : Nat → Bool} {B : Nat → FS} (h : zK I L R t T fa g u F m tm hb B) (a b c d e : Int32) : wr_P l 64 mX7_feed [.ref 0, .int a, .int b, .int c, .int d, .int e] SH I L R (zQc I L (.int (aFeed T a b c d e).1) (aFeed T a b c d e).2 fa g u F m tm hb B) := by
  obtain ⟨hR, hT, hC⟩ := h
  obtain ⟨ht, hto⟩ := zT_t hT
  obtain ⟨c1, c2, c3, c4, c5, c6, c7, c8⟩ := id hC
  refine wr_V.mono (by omega) (wr_V.imp (cW_feed hR T c1 a b c d e) (fun v s' I' L' R' q => ?_))
  obtain ⟨rfl, rfl, rfl, rfl, ht9, hf⟩ := q
  have hi : ∀ b, 3 ≤ b → I' b = I b := fun b hb => hf b (by omega) (by omega)
  exact ⟨rfl, rfl, fun b hb => hi b (by omega), fun _ _ => rfl, t, hR, hT, zC_g hC ht9 (hi 17 (by omega)) (fun a a1 a2 a3 => hi a (by omega)) rfl (crF_q c5 (hi _ (by omega)) (hi _ (by omega)) (hi _ (by omega)) (hi _ (by omega)) rfl) (fmV_fr c6 (by rw [hi 30 (by omega)]) (hi _ (by omega)) (hi _ (by omega)) (hi _ (by omega)) rfl) (by rw [hi 30 (by omega)]; exact c7) (fun a ha => hi a (by omega)) (fun _ _ _ => rfl)⟩
set_option maxHeartbeats 4000000 in
set_option maxRecDepth 100000 in
theorem zc_end {l : Launch} {I : wr_TI} {L : wr_TL} {R : wr_TR} {t : Nat} {T : TP} {fa : Int32 × Int32} {g : RG} {u : Nat} {F : FS} {m : FM} {tm : Int32} {hb : Nat → Bool} {B : Nat → FS} (h : zK I L R t T fa g u F m tm hb B) (x : Int32) : wr_P l 64 mX7_end [.ref 0, .int x] SH I L R (zQc I L (.int (aEnd T x).1) (aEnd T x).2 fa g u F m tm hb B) := by
  obtain ⟨hR, hT, hC⟩ := h
  obtain ⟨ht, hto⟩ := zT_t hT
  obtain ⟨c1, c2, c3, c4, c5, c6, c7, c8⟩ := id hC
  refine wr_V.mono (by omega) (wr_V.imp (cW_end hR T c1 x) (fun v s' I' L' R' q => ?_))
  obtain ⟨rfl, rfl, rfl, rfl, ht9, hf⟩ := q
  have hi : ∀ b, 3 ≤ b → I' b = I b := fun b hb => hf b (by omega) (by omega)
  exact ⟨rfl, rfl, fun b hb => hi b (by omega), fun _ _ => rfl, t, hR, hT, zC_g hC ht9 (hi 17 (by omega)) (fun a a1 a2 a3 => hi a (by omega)) rfl (crF_q c5 (hi _ (by omega)) (hi _ (by omega)) (hi _ (by omega)) (hi _ (by omega)) rfl) (fmV_fr c6 (by rw [hi 30 (by omega)]) (hi _ (by omega)) (hi _ (by omega)) (hi _ (by omega)) rfl) (by rw [hi 30 (by omega)]; exact c7) (fun a ha => hi a (by omega)) (fun _ _ _ => rfl)⟩
set_option maxHeartbeats 4000000 in
set_option maxRecDepth 100000 in
theorem zc_tryNow {l : Launch} {I : wr_TI} {L : wr_TL} {R : wr_TR} {t : Nat} {T : TP} {fa : Int32 × Int32} {g : RG} {u : Nat} {F : FS} {m : FM} {tm : Int32} {hb : Nat → Bool} {B : Nat → FS} (h : zK I L R t T fa g u F m tm hb B) : wr_P l 64 mX7_tryNow [.ref 0] SH I L R (zQc I L (.int (aTry g F.1)) T fa g u (tryF g F) m tm hb B) := by
  obtain ⟨hR, hT, hC⟩ := h
  obtain ⟨ht, hto⟩ := zT_t hT
  obtain ⟨c1, c2, c3, c4, c5, c6, c7, c8⟩ := id hC
  refine wr_V.mono (by omega) (wr_V.imp (cW_tryNow hR t ht hto g c3 F c5) (fun v s' I' L' R' q => ?_))
  obtain ⟨rfl, rfl, rfl, hF9, hf⟩ := q
  exact ⟨rfl, rfl, fun b hb => hf.1 b (by omega) (by omega), fun b hb => hf.2 b (by omega), t, hR, hT, zC_g hC (tpV_fr c1 (hf.1 1 (by omega) (by omega)) (hf.1 2 (by omega) (by omega))) (hf.1 17 (by omega) (by omega)) (fun a a1 a2 a3 => hf.1 a (by omega) a3) (hf.2 t (by omega)) hF9 (fmV_fr c6 (by rw [hf.1 30 (by omega) (by omega)]) (hf.1 31 (by omega) (by omega)) (hf.1 33 (by omega) (by omega)) (hf.1 34 (by omega) (by omega)) (hf.2 32 (by omega))) (by rw [hf.1 30 (by omega) (by omega)]; exact c7) (fun a ha => hf.1 a (by omega) (by omega)) (fun a a1 a2 => hf.2 a (by omega))⟩
noncomputable def aRun (g : RG) (F : FS) (x : Int32) : Int32 := if 0 ≤ x ∧ x ≤ 400 ∧ x ≤ 1000000 - F.1.2.2.1 then (rnG g (tN x) F).1 else -1
noncomputable def rnF (g : RG) (F : FS) (x : Int32) : FS := if 0 ≤ x ∧ x ≤ 400 ∧ x ≤ 1000000 - F.1.2.2.1 then (rnG g (tN x) F).2 else F
set_option maxHeartbeats 4000000 in
set_option maxRecDepth 100000 in
theorem zc_run {l : Launch} {I : wr_TI} {L : wr_TL} {R : wr_TR} {t : Nat} {T : TP} {fa : Int32 × Int32} {g : RG} {u : Nat} {F : FS} {m : FM} {tm : Int32} {hb : Nat → Bool} {B : Nat → FS} (h : zK I L R t T fa g u F m tm hb B) (x : Int32) : wr_P l 64 mX7_run [.ref 0, .int x] SH I L R (zQc I L (.int (aRun g F x)) T fa g u (rnF g F x) m tm hb B) := by
  obtain ⟨hR, hT, hC⟩ := h
  obtain ⟨ht, hto⟩ := zT_t hT
  obtain ⟨c1, c2, c3, c4, c5, c6, c7, c8⟩ := id hC
  refine wr_V.mono (by omega) (wr_V.imp (cW_run hR t ht hto g c3 F c5 x) (fun v s' I' L' R' q => ?_))
  obtain ⟨rfl, rfl, hf, hy, hn⟩ := q
  unfold aRun rnF
  by_cases ho : oRun F x
  · obtain ⟨rfl, hF9⟩ := hy ho
    have ho2 : 0 ≤ x ∧ x ≤ 400 ∧ x ≤ 1000000 - F.1.2.2.1 := ho
    rw [if_pos ho2, if_pos ho2]
    exact ⟨rfl, rfl, fun b hb => hf.1 b (by omega) (by omega), fun b hb => hf.2 b (by omega), t, hR, hT, zC_g hC (tpV_fr c1 (hf.1 1 (by omega) (by omega)) (hf.1 2 (by omega) (by omega))) (hf.1 17 (by omega) (by omega)) (fun a a1 a2 a3 => hf.1 a (by omega) a3) (hf.2 t (by omega)) hF9 (fmV_fr c6 (by rw [hf.1 30 (by omega) (by omega)]) (hf.1 31 (by omega) (by omega)) (hf.1 33 (by omega) (by omega)) (hf.1 34 (by omega) (by omega)) (hf.2 32 (by omega))) (by rw [hf.1 30 (by omega) (by omega)]; exact c7) (fun a ha => hf.1 a (by omega) (by omega)) (fun a a1 a2 => hf.2 a (by omega))⟩
  · obtain ⟨rfl, hF9⟩ := hn ho
    have ho2 : ¬ (0 ≤ x ∧ x ≤ 400 ∧ x ≤ 1000000 - F.1.2.2.1) := ho
    rw [if_neg ho2, if_neg ho2]
    exact ⟨rfl, rfl, fun b hb => hf.1 b (by omega) (by omega), fun b hb => hf.2 b (by omega), t, hR, hT, zC_g hC (tpV_fr c1 (hf.1 1 (by omega) (by omega)) (hf.1 2 (by omega) (by omega))) (hf.1 17 (by omega) (by omega)) (fun a a1 a2 a3 => hf.1 a (by omega) a3) (hf.2 t (by omega)) hF9 (fmV_fr c6 (by rw [hf.1 30 (by omega) (by omega)]) (hf.1 31 (by omega) (by omega)) (hf.1 33 (by omega) (by omega)) (hf.1 34 (by omega) (by omega)) (hf.2 32 (by omega))) (by rw [hf.1 30 (by omega) (by omega)]; exact c7) (fun a ha => hf.1 a (by omega) (by omega)) (fun a a1 a2 => hf.2 a (by omega))⟩
set_option maxHeartbeats 4000000 in
set_option maxRecDepth 100000 in
theorem zc_film {l : Launch} {I : wr_TI} {L : wr_TL} {R : wr_TR} {t : Nat} {T : TP} {fa : Int32 × Int32} {g : RG} {u : Nat} {F : FS} {m : FM} {tm : Int32} {hb : Nat → Bool} {B : Nat → FS} (h : zK I L R t T fa g u F m tm hb B) (x : Int32) (y : Int64) : wr_P l 64 mX7_film [.ref 0, .int x, .long y] SH I L R (zQc I L (.int (aFilm g m tm x y).1) T fa g u F (aFilm g m tm x y).2 tm hb B) := by
  obtain ⟨hR, hT, hC⟩ := h
  obtain ⟨ht, hto⟩ := zT_t hT
  obtain ⟨c1, c2, c3, c4, c5, c6, c7, c8⟩ := id hC
  refine wr_V.mono (by omega) (wr_V.imp (cW_film hR t ht hto g c3 m tm c6 c7 x y) (fun v s' I' L' R' q => ?_))
  obtain ⟨rfl, rfl, rfl, hM9, ht9, hf⟩ := q
  have hi : ∀ b, b ≠ 30 → b ≠ 31 → b ≠ 33 → b ≠ 34 → I' b = I b := hf.1
  exact ⟨rfl, rfl, fun b hb => hi b (by omega) (by omega) (by omega) (by omega), fun b hb => hf.2.2 b (by omega), t, hR, hT, zC_g hC (tpV_fr c1 (hi 1 (by omega) (by omega) (by omega) (by omega)) (hi 2 (by omega) (by omega) (by omega) (by omega))) (hi 17 (by omega) (by omega) (by omega) (by omega)) (fun a a1 a2 a3 => hi a (by omega) (by omega) (by omega) (by omega)) (hf.2.2 t (by omega)) (crF_q c5 (hi _ (by omega) (by omega) (by omega) (by omega)) (hi _ (by omega) (by omega) (by omega) (by omega)) (hi _ (by omega) (by omega) (by omega) (by omega)) (hi _ (by omega) (by omega) (by omega) (by omega)) (hf.2.2 18 (by omega))) hM9 ht9 (fun a ha => hi a (by omega) (by omega) (by omega) (by omega)) (fun a a1 a2 => hf.2.2 a (by omega))⟩
set_option maxHeartbeats 4000000 in
set_option maxRecDepth 100000 in
theorem zc_untell {l : Launch} {I : wr_TI} {L : wr_TL} {R : wr_TR} {t : Nat} {T : TP} {fa : Int32 × Int32} {g : RG} {u : Nat} {F : FS} {m : FM} {tm : Int32} {hb : Nat → Bool} {B : Nat → FS} (h : zK I L R t T fa g u F m tm hb B) (x : Int32) : wr_P l 64 mX7_untell [.ref 0, .int x] SH I L R (zQc I L (.int (aUntell m tm x).1) T fa g u F (aUntell m tm x).2 tm hb B) := by
  obtain ⟨hR, hT, hC⟩ := h
  obtain ⟨ht, hto⟩ := zT_t hT
  obtain ⟨c1, c2, c3, c4, c5, c6, c7, c8⟩ := id hC
  refine wr_V.mono (by omega) (wr_V.imp (cW_untell hR m tm c6 c7 x) (fun v s' I' L' R' q => ?_))
  obtain ⟨rfl, rfl, rfl, hM9, ht9, hf⟩ := q
  have hi : ∀ b, b ≠ 30 → b ≠ 31 → b ≠ 33 → b ≠ 34 → I' b = I b := hf.1
  exact ⟨rfl, rfl, fun b hb => hi b (by omega) (by omega) (by omega) (by omega), fun b hb => hf.2.2 b (by omega), t, hR, hT, zC_g hC (tpV_fr c1 (hi 1 (by omega) (by omega) (by omega) (by omega)) (hi 2 (by omega) (by omega) (by omega) (by omega))) (hi 17 (by omega) (by omega) (by omega) (by omega)) (fun a a1 a2 a3 => hi a (by omega) (by omega) (by omega) (by omega)) (hf.2.2 t (by omega)) (crF_q c5 (hi _ (by omega) (by omega) (by omega) (by omega)) (hi _ (by omega) (by omega) (by omega) (by omega)) (hi _ (by omega) (by omega) (by omega) (by omega)) (hi _ (by omega) (by omega) (by omega) (by omega)) (hf.2.2 18 (by omega))) hM9 ht9 (fun a ha => hi a (by omega) (by omega) (by omega) (by omega)) (fun a a1 a2 => hf.2.2 a (by omega))⟩
set_option maxHeartbeats 4000000 in
set_option maxRecDepth 100000 in
theorem zc_later {l : Launch} {I : wr_TI} {L : wr_TL} {R : wr_TR} {t : Nat} {T : TP} {fa : Int32 × Int32} {g : RG} {u : Nat} {F : FS} {m : FM} {tm : Int32} {hb : Nat → Bool} {B : Nat → FS} (h : zK I L R t T fa g u F m tm hb B) (x : Int32) : wr_P l 64 mX7_later [.ref 0, .int x] SH I L R (zQc I L (.int (aLater tm x).1) T fa g u F m (aLater tm x).2 hb B) := by
  obtain ⟨hR, hT, hC⟩ := h
  obtain ⟨ht, hto⟩ := zT_t hT
  obtain ⟨c1, c2, c3, c4, c5, c6, c7, c8⟩ := id hC
  refine wr_V.mono (by omega) (wr_V.imp (cW_later hR m tm c6 c7 x) (fun v s' I' L' R' q => ?_))
  obtain ⟨rfl, rfl, rfl, hM9, ht9, hf⟩ := q
  have hi : ∀ b, b ≠ 30 → b ≠ 31 → b ≠ 33 → b ≠ 34 → I' b = I b := hf.1
  exact ⟨rfl, rfl, fun b hb => hi b (by omega) (by omega) (by omega) (by omega), fun b hb => hf.2.2 b (by omega), t, hR, hT, zC_g hC (tpV_fr c1 (hi 1 (by omega) (by omega) (by omega) (by omega)) (hi 2 (by omega) (by omega) (by omega) (by omega))) (hi 17 (by omega) (by omega) (by omega) (by omega)) (fun a a1 a2 a3 => hi a (by omega) (by omega) (by omega) (by omega)) (hf.2.2 t (by omega)) (crF_q c5 (hi _ (by omega) (by omega) (by omega) (by omega)) (hi _ (by omega) (by omega) (by omega) (by omega)) (hi _ (by omega) (by omega) (by omega) (by omega)) (hi _ (by omega) (by omega) (by omega) (by omega)) (hf.2.2 18 (by omega))) hM9 ht9 (fun a ha => hi a (by omega) (by omega) (by omega) (by omega)) (fun a a1 a2 => hf.2.2 a (by omega))⟩
theorem zT_e {R R' : wr_TR} {t : Nat} (h : zT R t) (he : ∀ j k, ¬ ((j = 37 ∨ j = 38) ∧ k = 0) → R' j k = R j k) : zT R' t := by
  unfold zT at h ⊢
  rw [he 0 1 (by omega), he 0 2 (by omega)]
  exact h
theorem RC_e {R R' : wr_TR} (h : wr_RC R) (he : ∀ j k, ¬ ((j = 37 ∨ j = 38) ∧ k = 0) → R' j k = R j k) : wr_RC R' := fun j k r hr => by
  rw [he j k (by rintro ⟨rfl | rfl, rfl⟩ <;> simp [wr_cr] at hr)]
  exact h j k r hr
set_option maxHeartbeats 4000000 in
set_option maxRecDepth 100000 in
theorem zc_fits {l : Launch} {I : wr_TI} {L : wr_TL} {R : wr_TR} {t : Nat} {T : TP} {fa : Int32 × Int32} {g : RG} {u : Nat} {F : FS} {m : FM} {tm : Int32} {hb : Nat → Bool} {B : Nat → FS} (h : zK I L R t T fa g u F m tm hb B) (hU : fmU g m) (x : Int32) : wr_P l 64 mX7_fits [.ref 0, .int x] SH I L R (zQc I L (.int (nI (cn (fun a => fitS g a (kn m x)) 324))) T fa g u F m tm hb B) := by
  obtain ⟨hR, hT, hC⟩ := h
  obtain ⟨ht, hto⟩ := zT_t hT
  obtain ⟨c1, c2, c3, c4, c5, c6, c7, c8⟩ := id hC
  refine wr_V.mono (by omega) (wr_V.imp (cW_fits hR t ht hto g c3 m x c6 hU) (fun v s' I' L' R' q => ?_))
  obtain ⟨rfl, rfl, hf⟩ := q
  exact ⟨rfl, rfl, fun b hb => hf.1 b (by omega) (by omega) (by omega) (by omega), fun b hb => hf.2.2.1 b (by omega) (by omega) (by omega), t, RC_e hR hf.2.2.2, zT_e hT hf.2.2.2, zC_q ht hC (fun a a1 a2 a3 a4 a5 a6 a7 => hf.1 a a4 a5 a6 a7) (hf.2.1 6 (by omega) (by omega)) (hf.2.1 7 (by omega) (by omega)) (fun a a1 a2 a3 a4 a5 a6 => hf.2.2.1 a a3 a4 a5)⟩
set_option maxHeartbeats 4000000 in
set_option maxRecDepth 100000 in
theorem zc_fit {l : Launch} {I : wr_TI} {L : wr_TL} {R : wr_TR} {t : Nat} {T : TP} {fa : Int32 × Int32} {g : RG} {u : Nat} {F : FS} {m : FM} {tm : Int32} {hb : Nat → Bool} {B : Nat → FS} (h : zK I L R t T fa g u F m tm hb B) (hU : fmU g m) (x k : Int32) : wr_P l 64 mX7_fit [.ref 0, .int x, .int k] SH I L R (zQc I L (.int (aFit (fun a => fitS g a (kn m k)) x)) T fa g u F m tm hb B) := by
  obtain ⟨hR, hT, hC⟩ := h
  obtain ⟨ht, hto⟩ := zT_t hT
  obtain ⟨c1, c2, c3, c4, c5, c6, c7, c8⟩ := id hC
  refine wr_V.mono (by omega) (wr_V.imp (cW_fit hR t ht hto g c3 m k c6 hU x) (fun v s' I' L' R' q => ?_))
  obtain ⟨rfl, rfl, hf⟩ := q
  exact ⟨rfl, rfl, fun b hb => hf.1 b (by omega) (by omega) (by omega) (by omega), fun b hb => hf.2.2.1 b (by omega) (by omega) (by omega), t, RC_e hR hf.2.2.2, zT_e hT hf.2.2.2, zC_q ht hC (fun a a1 a2 a3 a4 a5 a6 a7 => hf.1 a a4 a5 a6 a7) (hf.2.1 6 (by omega) (by omega)) (hf.2.1 7 (by omega) (by omega)) (fun a a1 a2 a3 a4 a5 a6 => hf.2.2.1 a a3 a4 a5)⟩
set_option maxHeartbeats 4000000 in
set_option maxRecDepth 100000 in
theorem zc_sure {l : Launch} {I : wr_TI} {L : wr_TL} {R : wr_TR} {t : Nat} {T : TP} {fa : Int32 × Int32} {g : RG} {u : Nat} {F : FS} {m : FM} {tm : Int32} {hb : Nat → Bool} {B : Nat → FS} (h : zK I L R t T fa g u F m tm hb B) (hU : fmU g m) (x y k : Int32) : wr_P l 64 mX7_sure [.ref 0, .int x, .int y, .int k] SH I L R (zQc I L (.int (aSure g (kn m k) x y)) T fa g u F m tm hb B) := by
  obtain ⟨hR, hT, hC⟩ := h
  obtain ⟨ht, hto⟩ := zT_t hT
  obtain ⟨c1, c2, c3, c4, c5, c6, c7, c8⟩ := id hC
  refine wr_V.mono (by omega) (wr_V.imp (cW_sure hR t ht hto g c3 m k c6 hU x y) (fun v s' I' L' R' q => ?_))
  obtain ⟨rfl, rfl, hf⟩ := q
  exact ⟨rfl, rfl, fun b hb => hf.1 b (by omega) (by omega) (by omega) (by omega), fun b hb => hf.2.2.1 b (by omega) (by omega) (by omega), t, RC_e hR hf.2.2.2, zT_e hT hf.2.2.2, zC_q ht hC (fun a a1 a2 a3 a4 a5 a6 a7 => hf.1 a a4 a5 a6 a7) (hf.2.1 6 (by omega) (by omega)) (hf.2.1 7 (by omega) (by omega)) (fun a a1 a2 a3 a4 a5 a6 => hf.2.2.1 a a3 a4 a5)⟩
set_option maxHeartbeats 4000000 in
set_option maxRecDepth 100000 in
theorem zc_same {l : Launch} {I : wr_TI} {L : wr_TL} {R : wr_TR} {t : Nat} {T : TP} {fa : Int32 × Int32} {g : RG} {u : Nat} {F : FS} {m : FM} {tm : Int32} {hb : Nat → Bool} {B : Nat → FS} (h : zK I L R t T fa g u F m tm hb B) (x y : Int32) : wr_P l 64 mX7_same [.ref 0, .int x, .int y] SH I L R (zQc I L (.int (aSame g x y)) T fa g u F m tm hb B) := by
  obtain ⟨hR, hT, hC⟩ := h
  obtain ⟨ht, hto⟩ := zT_t hT
  obtain ⟨c1, c2, c3, c4, c5, c6, c7, c8⟩ := id hC
  refine wr_V.mono (by omega) (wr_V.imp (cW_same hR t ht hto g c3 x y) (fun v s' I' L' R' q => ?_))
  obtain ⟨rfl, rfl, hf⟩ := q
  exact ⟨rfl, rfl, fun b hb => hf.1 b (by omega) (by omega), fun b hb => hf.2.1 b (by omega) (by omega), t, RC_e hR hf.2.2, zT_e hT hf.2.2, zC_q ht hC (fun a a1 a2 a3 a4 a5 a6 a7 => hf.1 a a6 a7) (by rw [hf.1 30 (by omega) (by omega)]) (by rw [hf.1 30 (by omega) (by omega)]) (fun a a1 a2 a3 a4 a5 a6 => hf.2.1 a a4 a5)⟩
set_option maxHeartbeats 4000000 in
set_option maxRecDepth 100000 in
theorem zc_seed {l : Launch} {I : wr_TI} {L : wr_TL} {R : wr_TR} {t : Nat} {T : TP} {fa : Int32 × Int32} {g : RG} {u : Nat} {F : FS} {m : FM} {tm : Int32} {hb : Nat → Bool} {B : Nat → FS} (h : zK I L R t T fa g u F m tm hb B) (x : Int32) : wr_P l 64 mX7_seed [.ref 0, .int x] SH I L R (zQc I L (.int F.2.2) T fa g u (F.1, F.2.1, x) m tm hb B) := by
  obtain ⟨hR, hT, hC⟩ := h
  obtain ⟨ht, hto⟩ := zT_t hT
  obtain ⟨c1, c2, c3, c4, c5, c6, c7, c8⟩ := id hC
  rw [← c5.2.2]
  refine wr_V.mono (by omega) (wr_V.imp (cW_seed hR x) (fun v s' I' L' R' q => ?_))
  obtain ⟨rfl, rfl, rfl, rfl, rfl⟩ := q
  have hi : ∀ b, b ≠ 18 → wr_uI I 18 8 x b = I b := fun b hb => wr_uI_ne hb
  have hk : ∀ k, k ≠ 8 → wr_uI I 18 8 x 18 k = I 18 k := fun k hk => wr_uI_nk hk
  have h8 : wr_uI I 18 8 x 18 8 = x := by simp [wr_uI]
  generalize wr_uI I 18 8 x = I' at hi hk h8 ⊢
  refine ⟨rfl, rfl, fun b hb => hi b (by omega), fun _ _ => rfl, t, hR, hT, zC_g hC (tpV_fr c1 (hi 1 (by omega)) (hi 2 (by omega))) (hi 17 (by omega)) (fun a a1 a2 a3 => hi a (by omega)) rfl ⟨?_, ?_, h8⟩ (fmV_fr c6 (by rw [hi 30 (by omega)]) (hi _ (by omega)) (hi _ (by omega)) (hi _ (by omega)) rfl) (by rw [hi 30 (by omega)]; exact c7) (fun a ha => hi a (by omega)) (fun _ _ _ => rfl)⟩
  · have := c5.1
    unfold crV at this ⊢
    rw [hi (18 + 1) (by omega), hi (18 + 2) (by omega), hk 6 (by omega), hk 7 (by omega)]
    exact this
  · rw [hi (18 + 3) (by omega)]; exact c5.2.1
theorem crF_y {I : wr_TI} {L : wr_TL} {c q : Nat} {g : RG} {F : FS} (hcq : c + 5 ≤ q ∨ q + 5 ≤ c) (h : crF I L q g F) : crF (yI I c q) (yL L c q) c g F := by
  refine ⟨crV_copy hcq h.1, fun k hk => ?_, ?_⟩
  · rw [← h.2.1 k hk]; simp [yI, hk]
  · rw [← h.2.2]; simp [yI]
theorem yI_ne {I : wr_TI} {c q a : Nat} (h : a < c ∨ c + 4 ≤ a) : yI I c q a = I a := by
  funext b
  simp only [yI]
  rw [if_neg (by omega), if_neg (by omega), if_neg (by omega), if_neg (by omega)]
theorem yL_ne {L : wr_TL} {c q a : Nat} (h : a ≠ c) : yL L c q a = L a := by
  funext b
  simp [yL, h]
set_option maxHeartbeats 4000000 in
set_option maxRecDepth 100000 in
theorem zc_back {l : Launch} {I : wr_TI} {L : wr_TL} {R : wr_TR} {t : Nat} {T : TP} {fa : Int32 × Int32} {g : RG} {u : Nat} {F : FS} {m : FM} {tm : Int32} {hb : Nat → Bool} {B : Nat → FS} (h : zK I L R t T fa g u F m tm hb B) (x : Int32) : wr_P l 64 mX7_back [.ref 0, .int x] SH I L R (zQc I L (.int (aBk hb B x)) T fa g u (bkF hb B F x) m tm hb B) := by
  obtain ⟨hR, hT, hC⟩ := h
  obtain ⟨ht, hto⟩ := zT_t hT
  obtain ⟨c1, c2, c3, c4, c5, c6, c7, c8⟩ := id hC
  refine wr_V.mono (by omega) (wr_V.imp (cW_back hR x) (fun v s' I' L' R' q => ?_))
  obtain ⟨rfl, rfl, hn, hy⟩ := q
  unfold aBk bkF
  by_cases hx : 0 ≤ x ∧ x < 3
  · obtain ⟨b, hb3, rfl⟩ := x3 hx
    have etn : tN (nI b) = b := tN_nI (by omega)
    obtain ⟨y1, y2⟩ := hy b hb3 rfl
    by_cases hh : hb b = true
    · have ho : bkO hb (nI b) = true := by unfold bkO; rw [etn, hh]; simp [hx]
      rw [if_pos ho, if_pos ho, etn]
      obtain ⟨rfl, rfl, rfl⟩ := y2 (by rw [(c8 b hb3).1, hh]; decide)
      have hB := (c8 b hb3).2 hh
      have hi : ∀ a, a < 18 ∨ 22 ≤ a → yI I 18 (40 + 5 * b) a = I a := fun a ha => yI_ne (by omega)
      refine ⟨by rw [hB.1.2.2.2.1], rfl, fun a ha => hi a (by omega), fun a ha => yL_ne (by omega), t, hR, hT, zC_g hC (tpV_fr c1 (hi 1 (by omega)) (hi 2 (by omega))) (hi 17 (by omega)) (fun a a1 a2 a3 => hi a (by omega)) (yL_ne (by omega)) (crF_y (by omega) hB) (fmV_fr c6 (by rw [hi 30 (by omega)]) (hi 31 (by omega)) (hi 33 (by omega)) (hi 34 (by omega)) (yL_ne (by omega))) (by rw [hi 30 (by omega)]; exact c7) (fun a ha => hi a (by omega)) (fun a a1 a2 => yL_ne (by omega))⟩
    · have ho : ¬ bkO hb (nI b) = true := by unfold bkO; rw [etn]; simp [hh]
      rw [if_neg ho, if_neg ho]
      obtain ⟨rfl, rfl, rfl⟩ := y1 (by rw [(c8 b hb3).1, Bool.eq_false_iff.mpr hh]; rfl)
      exact ⟨rfl, rfl, fun _ _ => rfl, fun _ _ => rfl, t, hR, hT, hC⟩
  · have ho : ¬ bkO hb x = true := by unfold bkO; simp [hx]
    rw [if_neg ho, if_neg ho]
    obtain ⟨rfl, rfl, rfl⟩ := hn hx
    exact ⟨rfl, rfl, fun _ _ => rfl, fun _ _ => rfl, t, hR, hT, hC⟩
set_option maxHeartbeats 4000000 in
set_option maxRecDepth 100000 in
theorem zc_image {l : Launch} {I : wr_TI} {L : wr_TL} {R : wr_TR} {t : Nat} {T : TP} {fa : Int32 × Int32} {g : RG} {u : Nat} {F : FS} {m : FM} {tm : Int32} {hb : Nat → Bool} {B : Nat → FS} (h : zK I L R t T fa g u F m tm hb B) (x : Int32) : wr_P l 64 mX7_image [.ref 0, .int x] SH I L R (zQc I L (.int (aIm F x)) T fa g u F m tm (imH hb x) (imB F B x)) := by
  obtain ⟨hR, hT, hC⟩ := h
  obtain ⟨ht, hto⟩ := zT_t hT
  obtain ⟨c1, c2, c3, c4, c5, c6, c7, c8⟩ := id hC
  refine wr_V.mono (by omega) (wr_V.imp (cW_image hR x) (fun v s' I' L' R' q => ?_))
  obtain ⟨rfl, rfl, hn, hy⟩ := q
  unfold aIm
  by_cases hx : 0 ≤ x ∧ x < 3
  · rw [if_pos hx]
    obtain ⟨b, hb3, rfl⟩ := x3 hx
    obtain ⟨rfl, rfl, rfl⟩ := hy b hb3 rfl
    have hi : ∀ a, a ≠ 29 → a < 40 + 5 * b ∨ 44 + 5 * b ≤ a → wr_uI (yI I (40 + 5 * b) 18) 29 b 1 a = I a := fun a a1 ha => by rw [wr_uI_ne a1, yI_ne (by omega)]
    have hL : ∀ a, a ≠ 40 + 5 * b → yL L (40 + 5 * b) 18 a = L a := fun a ha => yL_ne ha
    have e29 : ∀ c, wr_uI (yI I (40 + 5 * b) 18) 29 b 1 29 c = if c = b then 1 else I 29 c := fun c => by
      by_cases e : c = b
      · subst e; simp [wr_uI]
      · rw [wr_uI_nk e, yI_ne (by omega), if_neg e]
    have hB : crF (wr_uI (yI I (40 + 5 * b) 18) 29 b 1) (yL L (40 + 5 * b) 18) (40 + 5 * b) g F := crF_q (crF_y (by omega) c5) (wr_uI_ne (by omega)) (wr_uI_ne (by omega)) (wr_uI_ne (by omega)) (wr_uI_ne (by omega)) rfl
    have e6 : I 18 6 = F.1.2.2.1 := c5.1.2.2.2.1
    generalize wr_uI (yI I (40 + 5 * b) 18) 29 b 1 = I' at hi e29 hB ⊢
    generalize yL L (40 + 5 * b) 18 = L' at hL hB ⊢
    refine ⟨by rw [e6], rfl, fun a ha => hi a (by omega) (by omega), fun a ha => hL a (by omega), t, hR, hT, tpV_fr c1 (hi 1 (by omega) (by omega)) (hi 2 (by omega) (by omega)), by rw [hi 17 (by omega) (by omega)]; exact c2, rgV_fr c3 (fun a a1 a2 a3 => hi a (by omega) (by omega)) (hL t (by omega)), by rw [hi (t + 1) (by omega) (by omega)]; exact c4, crF_q c5 (hi _ (by omega) (by omega)) (hi _ (by omega) (by omega)) (hi _ (by omega) (by omega)) (hi _ (by omega) (by omega)) (hL 18 (by omega)), fmV_fr c6 (by rw [hi 30 (by omega) (by omega)]) (hi 31 (by omega) (by omega)) (hi 33 (by omega) (by omega)) (hi 34 (by omega) (by omega)) (hL 32 (by omega)), by rw [hi 30 (by omega) (by omega)]; exact c7, fun c hc3 => ?_⟩
    by_cases e : c = b
    · subst e
      have h1 : imH hb (nI c) c = true := by simp [imH, hc3]
      have h2 : imB F B (nI c) c = F := by simp [imB, hc3]
      rw [e29 c, if_pos rfl, h1, h2]
      exact ⟨rfl, fun _ => hB⟩
    · have ne : ¬ (nI b = nI c ∧ c < 3) := fun z => e ((nI_eq (by omega) (by omega)).mp z.1).symm
      have h1 : imH hb (nI b) c = hb c := by unfold imH; rw [if_neg ne]
      have h2 : imB F B (nI b) c = B c := by unfold imB; rw [if_neg ne]
      rw [e29 c, if_neg e, h1, h2]
      exact ⟨(c8 c hc3).1, fun hh => crF_q ((c8 c hc3).2 hh) (hi _ (by omega) (by omega)) (hi _ (by omega) (by omega)) (hi _ (by omega) (by omega)) (hi _ (by omega) (by omega)) (hL _ (by omega))⟩
  · rw [if_neg hx]
    obtain ⟨rfl, rfl, rfl⟩ := hn hx
    have ne : ∀ c, ¬ (x = nI c ∧ c < 3) := fun c z => hx (by rw [z.1]; exact x3n z.2)
    have h1 : imH hb x = hb := by funext c; unfold imH; rw [if_neg (ne c)]
    have h2 : imB F B x = B := by funext c; unfold imB; rw [if_neg (ne c)]
    rw [h1, h2]
    exact ⟨rfl, rfl, fun _ _ => rfl, fun _ _ => rfl, t, hR, hT, hC⟩
