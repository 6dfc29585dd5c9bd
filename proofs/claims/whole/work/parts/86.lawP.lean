/-! what every call keeps; ring on both sides -/
theorem fOK_mo {n k : Nat} {F : FS} (h : fOK n F) (hk : n ≤ k) : fOK k F := by
  obtain ⟨tn, h1, h2, h3⟩ := h
  refine ⟨tn, h1, h2, fun s => ?_⟩
  obtain ⟨r, r1, r2⟩ := h3 s
  exact ⟨r, r1, by omega⟩
theorem fOK_try {n : Nat} {g : RG} {F : FS} (h : fOK n F) : fOK (n + 1) (tryF g F) := by
  obtain ⟨tn, h1, h2, h3⟩ := h
  refine ⟨tn, h1, h2, fun s => ?_⟩
  obtain ⟨r, r1, r2⟩ := h3 s
  show ∃ r', (if tryP (gF g) F.1 s = true then F.1.2.1 s + 1 else F.1.2.1 s) = nI r' ∧ r' ≤ tn + (n + 1)
  by_cases hp : tryP (gF g) F.1 s = true
  · rw [if_pos hp, r1, nI_1]; exact ⟨r + 1, rfl, by omega⟩
  · rw [if_neg hp, r1]; exact ⟨r, rfl, by omega⟩
theorem fOK_st {n tn : Nat} {g : RG} {F : FS} (h2 : F.1.2.2.1 = nI tn) (h3 : ∀ s, ∃ r, F.1.2.1 s = nI r ∧ r ≤ tn + n) : (stepF g F).1.2.2.1 = nI (tn + 1) ∧ ∀ s, ∃ r, (stepF g F).1.2.1 s = nI r ∧ r ≤ tn + 1 + n := by
  refine ⟨?_, fun s => ?_⟩
  · show F.1.2.2.1 + 1 = nI (tn + 1)
    rw [h2, nI_1]
  · obtain ⟨r, r1, r2⟩ := h3 s
    show ∃ r', (if s < gN g ∧ rsE g F s = true then F.1.2.1 s + 1 else F.1.2.1 s) = nI r' ∧ r' ≤ tn + 1 + n
    by_cases hp : s < gN g ∧ rsE g F s = true
    · rw [if_pos hp, r1, nI_1]; exact ⟨r + 1, rfl, by omega⟩
    · rw [if_neg hp, r1]; exact ⟨r, rfl, by omega⟩
theorem rn_ok {n : Nat} {g : RG} : ∀ (k tn : Nat) (F : FS), F.1.2.2.1 = nI tn → (∀ s, ∃ r, F.1.2.1 s = nI r ∧ r ≤ tn + n) → (rnG g k F).2.1.2.2.1 = nI (tn + k) ∧ ∀ s, ∃ r, (rnG g k F).2.1.2.1 s = nI r ∧ r ≤ tn + k + n := by
  intro k
  induction k with
  | zero => intro tn F h2 h3; exact ⟨h2, h3⟩
  | succ k ih =>
    intro tn F h2 h3
    obtain ⟨a1, a2⟩ := fOK_st (g := g) h2 h3
    obtain ⟨b1, b2⟩ := ih (tn + 1) _ a1 a2
    rw [show tn + (k + 1) = tn + 1 + k by omega]
    exact ⟨b1, b2⟩
theorem fOK_run {n : Nat} {g : RG} {F : FS} {x : Int32} (h : fOK n F) : fOK n (rnF g F x) := by
  unfold rnF
  by_cases ho : 0 ≤ x ∧ x ≤ 400 ∧ x ≤ 1000000 - F.1.2.2.1
  · rw [if_pos ho]
    obtain ⟨tn, h1, h2, h3⟩ := h
    obtain ⟨o1, o2, o3⟩ := ho
    obtain ⟨k, k1, rfl⟩ := nI_of2 (n := 400) (M := 400) (by decide) (Int32.not_lt.mpr o1) o2
    rw [h2, show (1000000 : Int32) = nI 1000000 by decide +kernel, pk_sub h1] at o3
    have o3 := (nI_leI (by omega) (by omega)).mp o3
    rw [tN_nI (by omega)]
    obtain ⟨b1, b2⟩ := rn_ok (n := n) (g := g) k tn F h2 h3
    exact ⟨tn + k, by omega, b1, b2⟩
  · rw [if_neg ho]; exact h
theorem fOK_0 {n : Nat} {g : RG} {w : Int32} {y : Nat → Int32} : fOK n (S0 g, y, w) := ⟨0, by omega, rfl, fun s => ⟨0, rfl, by omega⟩⟩
theorem zP_mo {n k : Nat} {T : TP} {fa : Int32 × Int32} {g : RG} {u : Nat} {F : FS} {m : FM} {tm : Int32} {hb : Nat → Bool} {B : Nat → FS} (h : zP n T fa g u F m tm hb B) (hk : n ≤ k) : zP k T fa g u F m tm hb B := ⟨h.1, fOK_mo h.2.1 hk, h.2.2.1, h.2.2.2.1, h.2.2.2.2.1, fun b hb3 hh => fOK_mo (h.2.2.2.2.2 b hb3 hh) hk⟩
theorem b255n (x : Int32) : 0 ≤ x &&& 255 := by
  have h : (x &&& 255).toBitVec.msb = false := by
    rw [Int32.toBitVec_and, BitVec.msb_and]
    have : (255 : Int32).toBitVec.msb = false := by decide
    rw [this, Bool.and_false]
  rw [Int32.le_iff_toInt_le]
  show (0 : Int32).toInt ≤ (x &&& 255).toBitVec.toInt
  rw [BitVec.toInt_eq_msb_cond, h]
  have : (0 : Int32).toInt = 0 := by decide
  rw [this]
  simp
theorem by_A {T : TP} {v : Int32} (h : ∀ i, i < T.1 → 0 ≤ T.2 i) : ∀ i, i < (tpA T v).1 → 0 ≤ (tpA T v).2 i := fun i _ => by
  show 0 ≤ (if i < T.1 then T.2 i else by4 v (i - T.1))
  by_cases hi : i < T.1
  · rw [if_pos hi]; exact h i hi
  · rw [if_neg hi]; exact b255n _
theorem zp_feed {n : Nat} {T : TP} {fa : Int32 × Int32} {g : RG} {u : Nat} {F : FS} {m : FM} {tm : Int32} {hb : Nat → Bool} {B : Nat → FS} (h : zP n T fa g u F m tm hb B) (a b c d e : Int32) : zP n (aFeed T a b c d e).2 fa g u F m tm hb B := by
  refine ⟨?_, h.2⟩
  unfold aFeed
  by_cases hx : T.1 ≤ 780
  · rw [if_pos hx]; exact by_A (by_A (by_A (by_A (by_A h.1))))
  · rw [if_neg hx]; exact h.1
theorem zp_end {n : Nat} {T : TP} {fa : Int32 × Int32} {g : RG} {u : Nat} {F : FS} {m : FM} {tm : Int32} {hb : Nat → Bool} {B : Nat → FS} (hT : T.1 ≤ 800) (h : zP n T fa g u F m tm hb B) (x : Int32) : zP n (aEnd T x).2 fa g u F m tm hb B := by
  refine ⟨?_, h.2⟩
  unfold aEnd
  by_cases hx : 0 ≤ x ∧ x ≤ nI T.1
  · rw [if_pos hx]
    intro i hi
    obtain ⟨j, j1, rfl⟩ := nI_of (Int32.not_lt.mpr hx.1)
    have hj := (nI_leI (by omega) (by omega)).mp hx.2
    have hi : i < tN (nI j) := hi
    rw [tN_nI j1] at hi
    exact h.1 i (by omega)
  · rw [if_neg hx]; exact h.1
theorem zp_film {n : Nat} {T : TP} {fa : Int32 × Int32} {g : RG} {u : Nat} {F : FS} {m : FM} {tm : Int32} {hb : Nat → Bool} {B : Nat → FS} (h : zP n T fa g u F m tm hb B) (x : Int32) (y : Int64) : zP n T fa g u F (aFilm g m tm x y).2 tm hb B := by
  unfold aFilm
  by_cases hx : (0 ≤ x ∧ x < 40) ∧ uIn g y = true ∧ m.1 < 60
  · rw [if_pos hx]
    refine ⟨h.1, h.2.1, fun f hf => ?_, fun f hf s hs => ?_, h.2.2.2.2⟩
    · have hf : f < m.1 + 1 := hf
      show (if f = m.1 then (-1 : Int32) else m.2.2.2.2 f) = -1 ∨ 0 ≤ (if f = m.1 then (-1 : Int32) else m.2.2.2.2 f)
      by_cases e : f = m.1
      · rw [if_pos e]; exact Or.inl rfl
      · rw [if_neg e]; exact h.2.2.1 f (by omega)
    · have hf : f < m.1 + 1 := hf
      show lb (if f = m.1 then y else m.2.2.1 f) s = false
      by_cases e : f = m.1
      · rw [if_pos e]; exact uIn_U hx.2.1 s hs
      · rw [if_neg e]; exact h.2.2.2.1 f (by omega) s hs
  · rw [if_neg hx]; exact h
theorem zp_untell {n : Nat} {T : TP} {fa : Int32 × Int32} {g : RG} {u : Nat} {F : FS} {m : FM} {tm : Int32} {hb : Nat → Bool} {B : Nat → FS} (h : zP n T fa g u F m tm hb B) (x : Int32) : zP n T fa g u F (aUntell m tm x).2 tm hb B := by
  unfold aUntell
  by_cases hx : (0 ≤ x ∧ x < nI m.1) ∧ m.2.2.2.2 (tN x) = -1
  · rw [if_pos hx]
    refine ⟨h.1, h.2.1, fun f hf => ?_, h.2.2.2⟩
    show (if f = tN x then tm else m.2.2.2.2 f) = -1 ∨ 0 ≤ (if f = tN x then tm else m.2.2.2.2 f)
    by_cases e : f = tN x
    · rw [if_pos e]; exact Or.inr h.2.2.2.2.1.1
    · rw [if_neg e]; exact h.2.2.1 f hf
  · rw [if_neg hx]; exact h
theorem zp_later {n : Nat} {T : TP} {fa : Int32 × Int32} {g : RG} {u : Nat} {F : FS} {m : FM} {tm : Int32} {hb : Nat → Bool} {B : Nat → FS} (h : zP n T fa g u F m tm hb B) (x : Int32) : zP n T fa g u F m (aLater tm x).2 hb B := by
  unfold aLater
  by_cases hx : 0 ≤ x ∧ x ≤ 1000 ∧ x ≤ 100000 - tm
  · rw [if_pos hx]
    refine ⟨h.1, h.2.1, h.2.2.1, h.2.2.2.1, ?_, h.2.2.2.2.2⟩
    obtain ⟨t0, t1⟩ := h.2.2.2.2.1
    obtain ⟨a, a1, rfl⟩ := nI_of2 (n := 100000) (M := 100000) (by decide +kernel) (Int32.not_lt.mpr t0) t1
    obtain ⟨b, b1, rfl⟩ := nI_of2 (n := 1000) (M := 1000) (by decide +kernel) (Int32.not_lt.mpr hx.1) hx.2.1
    have o3 := hx.2.2
    rw [show (100000 : Int32) = nI 100000 by decide +kernel, pk_sub a1] at o3
    have o3 := (nI_leI (by omega) (by omega)).mp o3
    show 0 ≤ nI a + nI b ∧ nI a + nI b ≤ 100000
    rw [nI_add]
    exact ⟨nI_pos' (by omega), nI_le (b := 100000) (by omega) (by omega)⟩
  · rw [if_neg hx]; exact h
theorem zp_image {n : Nat} {T : TP} {fa : Int32 × Int32} {g : RG} {u : Nat} {F : FS} {m : FM} {tm : Int32} {hb : Nat → Bool} {B : Nat → FS} (h : zP n T fa g u F m tm hb B) (x : Int32) : zP n T fa g u F m tm (imH hb x) (imB F B x) := by
  refine ⟨h.1, h.2.1, h.2.2.1, h.2.2.2.1, h.2.2.2.2.1, fun b hb3 hh => ?_⟩
  unfold imH at hh
  unfold imB
  by_cases e : x = nI b ∧ b < 3
  · rw [if_pos e]; exact h.2.1
  · rw [if_neg e] at hh ⊢; exact h.2.2.2.2.2 b hb3 hh
theorem zp_back {n : Nat} {T : TP} {fa : Int32 × Int32} {g : RG} {u : Nat} {F : FS} {m : FM} {tm : Int32} {hb : Nat → Bool} {B : Nat → FS} (h : zP n T fa g u F m tm hb B) (x : Int32) : zP n T fa g u (bkF hb B F x) m tm hb B := by
  refine ⟨h.1, ?_, h.2.2⟩
  unfold bkF
  by_cases ho : bkO hb x = true
  · rw [if_pos ho]
    have h2 := ho
    unfold bkO at h2
    rw [Bool.and_eq_true, decide_eq_true_eq] at h2
    obtain ⟨b, b3, rfl⟩ := x3 h2.1
    have h3 := h2.2
    rw [tN_nI (by omega)] at h3 ⊢
    exact h.2.2.2.2.2 b b3 h3
  · rw [if_neg ho]; exact h.2.1
theorem fOK_ro {n : Nat} {F : FS} (h : fOK n F) (hn : n ≤ 4000) : ∀ s, ∃ r, F.1.2.1 s = nI r ∧ r ≤ 2000000 := fun s => by
  obtain ⟨tn, h1, h2, h3⟩ := h
  obtain ⟨r, r1, r2⟩ := h3 s
  exact ⟨r, r1, by omega⟩
/-- what a ring leaves on both sides -/
def rgA9 (r : XR) : Int32 := match r with
  | .inl s => nI (gN s.2.1)
  | .inr _ => -1
def zW (n : Nat) (I : wr_TI) (L : wr_TL) (R : wr_TR) : Prop := ∃ (t : Nat) (T : TP) (fa : Int32 × Int32) (g : RG) (u : Nat) (F : FS) (m : FM) (tm : Int32) (hb : Nat → Bool) (B : Nat → FS), zK I L R t T fa g u F m tm hb B ∧ zM I L T fa g u F m tm hb B ∧ zP n T fa g u F m tm hb B
set_option maxHeartbeats 4000000 in
set_option maxRecDepth 100000 in
theorem z_ring {I J I' : wr_TI} {L K L' : wr_TL} {R R1 : wr_TR} {t u0 n : Nat} {T : TP} {fa : Int32 × Int32} {g : RG} {u : Nat} {F : FS} {m : FM} {tm : Int32} {hb : Nat → Bool} {B : Nat → FS} (htu : (t = 3 ∧ u0 = 10) ∨ (t = 10 ∧ u0 = 3)) (hK : zK I L R t T fa g u F m tm hb B) (hM : zM I L T fa g u F m tm hb B) (hP : zP n T fa g u F m tm hb B) (r : XR) (N : Nat) (hN : N = 801) (hr : lText T N (x0 T (gI I u0)) = r) (v : Option Value) (s9 : List wr_S) (h1 : rgQ I L t u0 r v s9 J K R1) (v2 : Option Value) (s8 : List wr_S) (R2 : wr_TR) (h2 : mrQ J K R1 r v2 s8 I' L' R2) : v = some (.int (rgA9 r)) ∧ v2 = some (.int (rgA9 r)) ∧ s8 = SH ∧ R2 = R1 ∧ zW n I' L' R1 := by
  obtain ⟨hRC, hT, hC⟩ := hK
  obtain ⟨c1, c2, c3, c4, c5, c6, c7, c8⟩ := id hC
  obtain ⟨m1, m2, m3, m4, m5, m6, m7, m8, m9⟩ := id hM
  obtain ⟨q1, q2, q3, q4, q5, q6⟩ := h1
  obtain ⟨p1, p2, p3, p4, p5⟩ := h2
  have hi : ∀ b, b < 55 → I' b = J b := fun b hb => p3.1 b (Or.inl hb)
  have hl : ∀ b, b < 55 → L' b = K b := fun b hb => p4 b (by omega)
  have e11 : I' 1 1 = nI 0 := by rw [hi 1 (by omega), q3]; rfl
  have hT' : tpV I' (0, T.2) := ⟨e11, by omega, fun i hi => absurd hi (Nat.not_lt_zero _)⟩
  have hT2 : mtV I' (0, T.2) := ⟨p3.2.2.2.trans rfl, by omega, fun i hi => absurd hi (Nat.not_lt_zero _)⟩
  have hT3 : ∀ i, i < ((0, T.2) : TP).1 → 0 ≤ ((0, T.2) : TP).2 i := fun i hi => absurd hi (Nat.not_lt_zero _)
  have h82 : mZ I' := mZ_q m6 ((p3.1 82 (Or.inr (Or.inr rfl))).trans (q4 82 (by omega)))
  have hT800 := c1.2.1
  cases r with
  | inl s =>
    obtain ⟨a1, a2, a3, a4, a5, a6, a7, a8, a9, a10, a11⟩ := q6
    obtain ⟨b1, b2, b3, b4, b5, b6, b7, b8, b9⟩ := p5
    have hok := (lText_ok hT800 (C0 := C0p (I (u0 + 2))) N (x0 T (gI I u0)) (by rw [hN]; omega) (tkS_g hT800 (by omega)) (tkS_q hT800 (by omega)) ⟨fun z => (by cases z), fun _ => ⟨rfl, rfl⟩⟩ s hr).2
    have hwf : wfl (gC s.2.1) (gLn s.2.1) 0 0 := by
      by_cases hlw : s.2.2.2.2.2 = true
      · exact hok.1 hlw (by have : gLn s.2.1 ≤ 259 := b9; show gLn s.2.1 < 260; omega)
      · have e := (hok.2 (Bool.eq_false_iff.mpr hlw)).1
        have e : s.2.1.2.2 = C0p (I (u0 + 2)) := e
        show wfl s.2.1.2.2.2.1 s.2.1.2.2.2.2 0 0
        rw [e]
        exact wfl_E (I (u0 + 2)) (fun _ => 0) (fun _ => 0) (fun _ => 0)
    have hV : rgV I' L' u0 s.2.1 := rgV_W.mpr ⟨by
      have := a4
      unfold rgW at this ⊢
      rw [hi u0 (by omega), hi (u0 + 1) (by omega), hi (u0 + 2) (by omega), hi (u0 + 4) (by omega), hi (u0 + 5) (by omega), hi (u0 + 6) (by omega), hl u0 (by omega)]
      exact this, hwf⟩
    refine ⟨a1, b1, p1, p2, u0, (0, T.2), (0, -1), s.2.1, s.2.2.1, (S0 s.2.1, (fun _ => 0), F.2.2), (0, m.2), tm, (fun _ => false), B, ⟨q2, ?_, hT', ?_, hV, ?_, ?_, ?_, ?_, fun b hb3 => ⟨?_, fun z => by cases z⟩⟩, ⟨hT2, ⟨b7, b8⟩, b2, b3, ?_, h82, ?_, ?_, fun b hb3 => ⟨b6 b hb3, fun z => by cases z⟩⟩, hT3, fOK_0, fun f hf => absurd hf (Nat.not_lt_zero _), fun f hf => absurd hf (Nat.not_lt_zero _), hP.2.2.2.2.1, fun b hb3 z => by cases z⟩
    · rcases htu with ⟨rfl, rfl⟩ | ⟨rfl, rfl⟩
      · exact Or.inr ⟨rfl, a2, a3⟩
      · exact Or.inl ⟨rfl, a2, a3⟩
    · rw [hi 17 (by omega)]; exact ⟨a10, a11⟩
    · rw [hi (u0 + 1) (by omega)]; exact a5
    · rw [← c5.2.2]
      exact crF_q a6 (hi 18 (by omega)) (hi (18 + 1) (by omega)) (hi (18 + 2) (by omega)) (hi (18 + 3) (by omega)) (hl 18 (by omega))
    · exact ⟨by rw [hi 30 (by omega), a7]; rfl, by show 0 ≤ 60; omega, fun f hf => absurd hf (Nat.not_lt_zero _)⟩
    · rw [hi 30 (by omega), a8]; exact c7
    · rw [hi 29 (by omega)]; exact a9 b hb3
    · have e59 : J 55 59 = F.2.2 := by rw [q4 55 (by omega)]; exact m5.2.2
      rw [e59] at b4
      exact b4
    · exact ⟨b5.trans rfl, by show 0 ≤ 60; omega, fun f hf => absurd hf (Nat.not_lt_zero _)⟩
    · rw [p3.2.2.1, q4 55 (by omega)]; exact m8
  | inr e =>
    obtain ⟨a1, a2, a3, a4, a5, a6⟩ := q6
    obtain ⟨b1, b2, b3, b4⟩ := p5
    have hc : ∀ b, b < 55 → b ≠ 1 → b ≠ 17 → (b < u0 ∨ u0 + 6 < b ∨ b = u0 + 3) → I' b = I b := fun b z1 z2 z3 z4 => (hi b z1).trans (a5 b z2 z3 z4)
    have hcl : ∀ b, b < 55 → b ≠ u0 → L' b = L b := fun b z1 z2 => (hl b z1).trans (a6 b z2)
    have hx : ∀ b, 55 ≤ b → xb b = false → I' b = I b := fun b z1 z2 => (b3 b z2).trans (q4 b z1)
    have hk : ∀ k, xk k = false → k ≠ 1 → k ≠ 5 → I' 55 k = I 55 k := fun k z1 z2 z3 => (b4 k z1 z2 z3).trans (by rw [q4 55 (by omega)])
    have hcr : ∀ c, c = 18 ∨ (40 ≤ c ∧ c < 55) → ∀ g F, crF I L c g F → (c + 3 < 55) → crF I' L' c g F := fun c hc1 g F hF h55 => crF_q hF (hc _ (by omega) (by omega) (by omega) (by omega)) (hc _ (by omega) (by omega) (by omega) (by omega)) (hc _ (by omega) (by omega) (by omega) (by omega)) (hc _ (by omega) (by omega) (by omega) (by omega)) (hcl _ (by omega) (by omega))
    refine ⟨a1, b1, p1, p2, t, (0, T.2), (e.1, nI e.2), g, u, F, m, tm, hb, B, ⟨q2, ?_, hT', ?_, ?_, ?_, ?_, ?_, ?_, fun b hb3 => ⟨?_, fun hh => ?_⟩⟩, ⟨hT2, ⟨b2.1, b2.2.1⟩, ?_, ?_, ?_, h82, ?_, ?_, fun b hb3 => ⟨?_, fun hh => ?_⟩⟩, hT3, hP.2⟩
    · rcases htu with ⟨rfl, rfl⟩ | ⟨rfl, rfl⟩
      · exact Or.inl ⟨rfl, a2, a3⟩
      · exact Or.inr ⟨rfl, a2, a3⟩
    · rw [hi 17 (by omega)]; exact a4
    · exact rgV_fr c3 (fun a z1 z2 z3 => hc a (by omega) (by omega) (by omega) (by omega)) (hcl t (by omega) (by omega))
    · rw [hc (t + 1) (by omega) (by omega) (by omega) (by omega)]; exact c4
    · exact hcr 18 (Or.inl rfl) g F c5 (by omega)
    · exact fmV_fr c6 (by rw [hc 30 (by omega) (by omega) (by omega) (by omega)]) (hc 31 (by omega) (by omega) (by omega) (by omega)) (hc 33 (by omega) (by omega) (by omega) (by omega)) (hc 34 (by omega) (by omega) (by omega) (by omega)) (hcl 32 (by omega) (by omega))
    · rw [hc 30 (by omega) (by omega) (by omega) (by omega)]; exact c7
    · rw [hc 29 (by omega) (by omega) (by omega) (by omega)]; exact (c8 b hb3).1
    · exact hcr _ (by omega) g _ ((c8 b hb3).2 hh) (by omega)
    · exact mgV_fr m3 (fun k q => hk k (by rcases q with rfl | rfl | rfl | rfl | rfl | rfl | rfl <;> rfl) (by omega) (by omega)) (fun a q => hx a (by omega) (by rcases q with rfl | rfl | rfl | rfl | rfl | rfl | rfl | rfl <;> rfl))
    · rw [hk 46 rfl (by omega) (by omega)]; exact m4
    · exact mcF_q m5 (hx 75 (by omega) rfl) (hx 76 (by omega) rfl) (hx 80 (by omega) rfl) (fun k k1 k2 => hk k (by rcases (show k = 57 ∨ k = 58 ∨ k = 59 by omega) with rfl | rfl | rfl <;> rfl) (by omega) (by omega))
    · exact mfV_q m7 (hk 69 rfl (by omega) (by omega)) (hx 83 (by omega) rfl) (hx 84 (by omega) rfl) (hx 85 (by omega) rfl) (by rw [p4 86 (by omega), q5 86 (by omega)])
    · rw [hk 70 rfl (by omega) (by omega)]; exact m8
    · rw [hx 93 (by omega) rfl]; exact (m9 b hb3).1
    · exact mBx_q ((m9 b hb3).2 hh) (fun a z1 z2 => hx a (by omega) (by rcases (show a = 93 ∨ a = 94 ∨ a = 95 ∨ a = 96 ∨ a = 97 ∨ a = 98 ∨ a = 99 by omega) with rfl | rfl | rfl | rfl | rfl | rfl | rfl <;> rfl))
