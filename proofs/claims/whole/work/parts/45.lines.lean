/-! lines of a text: what stands here, the ring so far -/
abbrev XS : Type := TK × RG × Nat × Bool × Bool × Bool
abbrev XR : Type := XS ⊕ (Int32 × Nat)
def lbd (r : XR) (f : XS → XR) : XR := match r with
  | .inl s => f s
  | .inr e => .inr e
def lnx (T : TP) (s : XS) : XS := (tkS T s.1.2.2.1, s.2)
def lrf (s : XS) : XR := .inr (rfF s.1, s.1.2.1)
def lW (T : TP) (i : Nat) (s : XS) : XR := if isWd T s.1 i = true then .inl (lnx T s) else lrf s
def lSg (T : TP) (c : Int32) (s : XS) : XR := if isS T s.1 c = true then .inl (lnx T s) else lrf s
def lNm (a b : Int32) (s : XS) : XR := if tkN s.1 a b = true then .inl s else .inr (tnF s.1, s.1.2.1)
/-- the ring in its cells, but for the law's good form -/
def rgW (I : wr_TI) (L : wr_TL) (t : Nat) (g : RG) : Prop :=
  I t 5 = nI (gN g) ∧ 6 ≤ gN g ∧ gN g ≤ 40 ∧ (∀ s, lb (L t 6) s = gG g s) ∧ (∀ s, lb (L t 7) s = gD g s) ∧ (∀ s, lb (L t 8) s = gF g s) ∧ (∀ s, gN g ≤ s → gG g s = false ∧ gD g s = false ∧ gF g s = false) ∧
  I (t + 4) = g.2.1.1 ∧ I (t + 5) = g.2.1.2.1 ∧ I (t + 6) = g.2.1.2.2.1 ∧ I t 4 = nI g.2.1.2.2.2 ∧ g.2.1.2.2.2 ≤ 6 ∧
  I t 9 = gUp g ∧ (1 ≤ gUp g ∧ gUp g ≤ 9) ∧ I t 10 = gRe g ∧ (0 ≤ gRe g ∧ gRe g ≤ 20) ∧ I t 11 = nI (gSe g) ∧ (1 ≤ gSe g ∧ gSe g ≤ 9) ∧ I t 12 = gSh g ∧ (0 ≤ gSh g ∧ gSh g ≤ 9) ∧
  I (t + 2) = gC g ∧ I (t + 1) 2 = nI (gLn g) ∧ gLn g ≤ 260
theorem rgV_W {I : wr_TI} {L : wr_TL} {t : Nat} {g : RG} : rgV I L t g ↔ rgW I L t g ∧ wfl (gC g) (gLn g) 0 0 := by
  unfold rgV rgW
  constructor
  · rintro ⟨h1, h2, h3, h4, h5, h6, h7, h8, h9, h10, h11, h12, h13, h14, h15, h16, h17, h18, h19, h20, h21, h22, h23, h24⟩
    exact ⟨⟨h1, h2, h3, h4, h5, h6, h7, h8, h9, h10, h11, h12, h13, h14, h15, h16, h17, h18, h19, h20, h21, h22, h23⟩, h24⟩
  · rintro ⟨⟨h1, h2, h3, h4, h5, h6, h7, h8, h9, h10, h11, h12, h13, h14, h15, h16, h17, h18, h19, h20, h21, h22, h23⟩, h24⟩
    exact ⟨h1, h2, h3, h4, h5, h6, h7, h8, h9, h10, h11, h12, h13, h14, h15, h16, h17, h18, h19, h20, h21, h22, h23, h24⟩
def bI (b : Bool) : Int32 := if b = true then 1 else 0
theorem bI_0 {b : Bool} : bI b = 0 ↔ b = false := by cases b <;> simp [bI]
theorem bI_nar (b : Bool) : narrow .boolean (.int (bI b)) = .int (bI b) := by cases b <;> rfl
def noP (g : RG) : Prop := ∀ x, gG g x = false ∧ gD g x = false ∧ gF g x = false
def lsV (I : wr_TI) (L : wr_TL) (t : Nat) (s : XS) : Prop := tkV I s.1 ∧ tkO s.1 ∧ rgW I L t s.2.1 ∧ I (t + 1) 3 = nI s.2.2.1 ∧ s.2.2.1 ≤ 30 ∧ I 17 2 = bI s.2.2.2.1 ∧ I 17 3 = bI s.2.2.2.2.1 ∧ I 17 4 = bI s.2.2.2.2.2 ∧ (s.2.2.2.2.1 = false → noP s.2.1)
def frN (t : Nat) (I : wr_TI) (L : wr_TL) (I' : wr_TI) (L' : wr_TL) : Prop := (∀ b, b ≠ 17 → (b < t ∨ t + 6 < b ∨ b = t + 3) → I' b = I b) ∧ ∀ b, b ≠ t → L' b = L b
theorem frN_rf {t : Nat} {I : wr_TI} {L : wr_TL} : frN t I L I L := ⟨fun _ _ _ => rfl, fun _ _ => rfl⟩
theorem frN_tr {t : Nat} {I J K : wr_TI} {L M N : wr_TL} (h1 : frN t I L J M) (h2 : frN t J M K N) : frN t I L K N := ⟨fun b b1 b2 => (h2.1 b b1 b2).trans (h1.1 b b1 b2), fun b hb => (h2.2 b hb).trans (h1.2 b hb)⟩
theorem frN_T {t : Nat} {I J : wr_TI} {L M : wr_TL} {T : TP} (ht : t = 3 ∨ t = 10) (h : frN t I L J M) (hT : tpV I T) : tpV J T := tpV_fr hT (h.1 1 (by omega) (by omega)) (h.1 2 (by omega) (by omega))
theorem rgW_fr {I I' : wr_TI} {L : wr_TL} {t : Nat} {g : RG} (hV : rgW I L t g) (hI : ∀ a, t ≤ a → a ≤ t + 6 → a ≠ t + 3 → I' a = I a) : rgW I' L t g := by
  unfold rgW at hV ⊢
  rw [hI t (by omega) (by omega) (by omega), hI (t + 1) (by omega) (by omega) (by omega), hI (t + 2) (by omega) (by omega) (by omega), hI (t + 4) (by omega) (by omega) (by omega), hI (t + 5) (by omega) (by omega) (by omega), hI (t + 6) (by omega) (by omega) (by omega)]
  exact hV
theorem lsV_K {t : Nat} {I J : wr_TI} {L : wr_TL} {T : TP} {s : XS} (ht : t = 3 ∨ t = 10) (hT : T.1 ≤ 800) (h : lsV I L t s) (hk : tkV J (tkS T s.1.2.2.1)) (hf : frK I J) : lsV J L t (lnx T s) := by
  obtain ⟨h1, h2, h3, h4, h5, h6, h7, h8, h9⟩ := h
  refine ⟨hk, tkS_o hT h2.2.2, rgW_fr h3 (fun a b1 b2 b3 => hf.1 a (by omega)), ?_, h5, ?_, ?_, ?_, h9⟩
  · rw [hf.1 (t + 1) (by omega)]; exact h4
  · rw [hf.2 2 (by omega) (by omega) (by omega) (by omega)]; exact h6
  · rw [hf.2 3 (by omega) (by omega) (by omega) (by omega)]; exact h7
  · rw [hf.2 4 (by omega) (by omega) (by omega) (by omega)]; exact h8
theorem frN_K {t : Nat} {I J : wr_TI} {L : wr_TL} (h : frK I J) : frN t I L J L := ⟨fun b b1 _ => h.1 b b1, fun _ _ => rfl⟩
def fal (I : wr_TI) (e : Int32 × Nat) : Prop := I 17 9 = e.1 ∧ I 17 10 = nI e.2
theorem fal_rf {I : wr_TI} {f : Int32} {k : TK} : fal (rfI I f k) (f, k.2.1) := ⟨by simp [rfI, wr_uI], by simp [rfI, wr_uI]⟩
theorem frN_rfI {t : Nat} {I : wr_TI} {L : wr_TL} {f : Int32} {k : TK} (ht : t = 3 ∨ t = 10) : frN t I L (rfI I f k) L := ⟨fun b b1 _ => by unfold rfI; rw [wr_uI_ne b1, wr_uI_ne b1], fun _ _ => rfl⟩
def lQ (R : wr_TR) (t : Nat) (I : wr_TI) (L : wr_TL) (r : XR) : wr_TQ := fun v s' I' L' R' => s' = SH ∧ R' = R ∧ frN t I L I' L' ∧ match r with
  | .inl s => v = some (.int 1) ∧ lsV I' L' t s ∧ noF I I'
  | .inr e => v = some (.int 0) ∧ fal I' e
theorem dL_step {l : Launch} {I : wr_TI} {L : wr_TL} {R : wr_TR} {T : TP} {t : Nat} {s : XS} (hR : wr_RC R) (ht : t = 3 ∨ t = 10) (hT : tpV I T) (hs : lsV I L t s) : wr_P l 2 mX4_step [.ref 17] SH I L R (fun v s' I' L' R' => v = none ∧ s' = SH ∧ L' = L ∧ R' = R ∧ lsV I' L t (lnx T s) ∧ frN t I L I' L ∧ noF I I') := by
  refine wr_V.imp (cD_step hR T s.1.2.2.1 hT hs.2.1.2.2 hs.1.2.2.1) (fun v s' I' L' R' h => ?_)
  obtain ⟨q1, q2, q3, q4, q5, q6⟩ := h
  exact ⟨q1, q2, q3, q4, lsV_K ht hT.2.1 hs q5 q6, frN_K q6, noF_K q6⟩
theorem dL_word {l : Launch} {I : wr_TI} {L : wr_TL} {R : wr_TR} {T : TP} {t : Nat} {s : XS} (hR : wr_RC R) (ht : t = 3 ∨ t = 10) (hT : tpV I T) (hs : lsV I L t s) (i : Nat) (hi : i < 22) : wr_P l 5 mX4_takeWord [.ref 17, .ref (1000000 + i)] SH I L R (fun v s' I' L' R' => s' = SH ∧ L' = L ∧ R' = R ∧ (isWd T s.1 i = true → v = some (.int 1) ∧ lsV I' L t (lnx T s) ∧ frN t I L I' L ∧ noF I I') ∧ (¬ isWd T s.1 i = true → v = some (.int 0) ∧ frN t I L I' L ∧ fal I' (rfF s.1, s.1.2.1))) := by
  refine wr_V.imp (cD_takeW hR T s.1 hT hs.1 hs.2.1 i hi) (fun v s' I' L' R' h => ?_)
  obtain ⟨q1, q2, q3, q4, q5⟩ := h
  refine ⟨q1, q2, q3, fun hc => ?_, fun hc => ?_⟩
  · obtain ⟨r1, r2, r3⟩ := q4 hc
    exact ⟨r1, lsV_K ht hT.2.1 hs r2 r3, frN_K r3, noF_K r3⟩
  · obtain ⟨r1, r2⟩ := q5 hc
    subst r2
    exact ⟨r1, frN_rfI ht, fal_rf⟩
theorem dL_sign {l : Launch} {I : wr_TI} {L : wr_TL} {R : wr_TR} {T : TP} {t : Nat} {s : XS} (hR : wr_RC R) (ht : t = 3 ∨ t = 10) (hT : tpV I T) (hs : lsV I L t s) (c : Int32) : wr_P l 3 mX4_takeSign [.ref 17, .int c] SH I L R (fun v s' I' L' R' => s' = SH ∧ L' = L ∧ R' = R ∧ (isS T s.1 c = true → v = some (.int 1) ∧ lsV I' L t (lnx T s) ∧ frN t I L I' L ∧ noF I I') ∧ (¬ isS T s.1 c = true → v = some (.int 0) ∧ frN t I L I' L ∧ fal I' (rfF s.1, s.1.2.1))) := by
  refine wr_V.imp (cD_takeS hR T s.1 hT hs.1 hs.2.1 c) (fun v s' I' L' R' h => ?_)
  obtain ⟨q1, q2, q3, q4, q5⟩ := h
  refine ⟨q1, q2, q3, fun hc => ?_, fun hc => ?_⟩
  · obtain ⟨r1, r2, r3⟩ := q4 hc
    exact ⟨r1, lsV_K ht hT.2.1 hs r2 r3, frN_K r3, noF_K r3⟩
  · obtain ⟨r1, r2⟩ := q5 hc
    subst r2
    exact ⟨r1, frN_rfI ht, fal_rf⟩
theorem dL_num {l : Launch} {I : wr_TI} {L : wr_TL} {R : wr_TR} {T : TP} {t : Nat} {s : XS} (hR : wr_RC R) (ht : t = 3 ∨ t = 10) (hT : tpV I T) (hs : lsV I L t s) (a b : Int32) : wr_P l 1 mX4_takeNumber [.ref 17, .int a, .int b] SH I L R (fun v s' I' L' R' => s' = SH ∧ L' = L ∧ R' = R ∧ (tkN s.1 a b = true → v = some (.int 1) ∧ I' = I) ∧ (¬ tkN s.1 a b = true → v = some (.int 0) ∧ frN t I L I' L ∧ fal I' (tnF s.1, s.1.2.1))) := by
  refine wr_V.imp (cD_takeN hR s.1 hs.1 hs.2.1 a b) (fun v s' I' L' R' h => ?_)
  obtain ⟨rfl, rfl, rfl, rfl, rfl⟩ := h
  refine ⟨rfl, rfl, rfl, fun hc => ?_, fun hc => ?_⟩
  · rw [if_pos hc, if_pos hc]; exact ⟨rfl, rfl⟩
  · rw [if_neg hc, if_neg hc]; exact ⟨rfl, frN_rfI ht, fal_rf⟩
theorem dL_ref {l : Launch} {I : wr_TI} {L : wr_TL} {R : wr_TR} {T : TP} {t : Nat} {s : XS} (hR : wr_RC R) (ht : t = 3 ∨ t = 10) (hT : tpV I T) (hs : lsV I L t s) : wr_P l 0 mX4_refuse [.ref 17] SH I L R (fun v s' I' L' R' => s' = SH ∧ L' = L ∧ R' = R ∧ v = some (.int 0) ∧ frN t I L I' L ∧ fal I' (rfF s.1, s.1.2.1)) := by
  refine wr_V.imp (cD_refuse hR s.1 hs.1 hs.2.1) (fun v s' I' L' R' h => ?_)
  obtain ⟨rfl, rfl, rfl, rfl, rfl⟩ := h
  exact ⟨rfl, rfl, rfl, rfl, frN_rfI ht, fal_rf⟩
theorem lbd_l (s : XS) (f : XS → XR) : lbd (.inl s) f = f s := rfl
theorem lbd_r (e : Int32 × Nat) (f : XS → XR) : lbd (.inr e) f = .inr e := rfl
theorem lW_t {T : TP} {i : Nat} {s : XS} (h : isWd T s.1 i = true) : lW T i s = .inl (lnx T s) := if_pos h
theorem lW_f {T : TP} {i : Nat} {s : XS} (h : ¬ isWd T s.1 i = true) : lW T i s = .inr (rfF s.1, s.1.2.1) := if_neg h
theorem lSg_t {T : TP} {c : Int32} {s : XS} (h : isS T s.1 c = true) : lSg T c s = .inl (lnx T s) := if_pos h
theorem lSg_f {T : TP} {c : Int32} {s : XS} (h : ¬ isS T s.1 c = true) : lSg T c s = .inr (rfF s.1, s.1.2.1) := if_neg h
theorem lNm_t {a b : Int32} {s : XS} (h : tkN s.1 a b = true) : lNm a b s = .inl s := if_pos h
theorem lNm_f {a b : Int32} {s : XS} (h : ¬ tkN s.1 a b = true) : lNm a b s = .inr (tnF s.1, s.1.2.1) := if_neg h
theorem tkN_i {k : TK} {a b : Int32} (h : tkN k a b = true) : k.1 = 2 ∧ a ≤ k.2.2.2 ∧ k.2.2.2 ≤ b := by simpa [tkN] using h
/-- the ring's parts, one by one -/
def sN (n : Nat) (g : RG) : RG := ((n, g.1.2), g.2)
def sUp (x : Int32) (g : RG) : RG := (g.1, g.2.1, (x, g.2.2.1.2), g.2.2.2)
def sRe (x : Int32) (g : RG) : RG := (g.1, g.2.1, (g.2.2.1.1, x, g.2.2.1.2.2), g.2.2.2)
def sSe (n : Nat) (g : RG) : RG := (g.1, g.2.1, (g.2.2.1.1, g.2.2.1.2.1, n, g.2.2.1.2.2.2), g.2.2.2)
def sSh (x : Int32) (g : RG) : RG := (g.1, g.2.1, (g.2.2.1.1, g.2.2.1.2.1, g.2.2.1.2.2.1, x), g.2.2.2)
def sCo (c : (Nat → Int32) × Nat) (g : RG) : RG := (g.1, g.2.1, g.2.2.1, c)
def sSl (x y z : Int32) (g : RG) : RG := (g.1, (upd g.2.1.1 g.2.1.2.2.2 x, upd g.2.1.2.1 g.2.1.2.2.2 y, upd g.2.1.2.2.1 g.2.1.2.2.2 z, g.2.1.2.2.2 + 1), g.2.2)
def rg (a b : Nat) : Nat → Bool := fun s => decide (a ≤ s ∧ s ≤ b)
def sPl (w a b : Nat) (g : RG) : RG := ((g.1.1, (if w = 1 then fun s => g.1.2.1 s || rg a b s else g.1.2.1), (if w = 0 then fun s => g.1.2.2.1 s || rg a b s else g.1.2.2.1), (if w = 2 then fun s => g.1.2.2.2 s || rg a b s else g.1.2.2.2)), g.2)
/-- a line of each kind -/
def lSeats (T : TP) (s : XS) : XR :=
  if s.2.2.2.1 = true ∨ s.2.2.2.2.1 = true then lrf s
  else lbd (lNm 6 40 (lnx T (s.1, s.2.1, s.2.2.1, true, s.2.2.2.2))) (fun s1 => lSg T 59 (lnx T (s1.1, sN (tN s1.1.2.2.2) s1.2.1, s1.2.2)))
def lPlaces (T : TP) (w : Nat) (s : XS) : XR :=
  lbd (lNm 0 (nI (gN s.2.1 - 1)) (lnx T (s.1, s.2.1, s.2.2.1, s.2.2.2.1, true, s.2.2.2.2.2))) (fun s1 => lbd (lW T 4 (lnx T s1)) (fun s2 => lbd (lNm s1.1.2.2.2 (nI (gN s.2.1 - 1)) s2) (fun s3 =>
    lSg T 59 (lnx T (s3.1, sPl w (tN s1.1.2.2.2) (tN s3.1.2.2.2) s3.2.1, s3.2.2)))))
def lSlack (T : TP) (s : XS) : XR :=
  if 6 ≤ s.2.1.2.1.2.2.2 then lrf s
  else lbd (lNm 0 999 (lnx T s)) (fun s1 => lbd (lW T 4 (lnx T s1)) (fun s2 => lbd (lNm s1.1.2.2.2 999 s2) (fun s3 => lbd (lW T 6 (lnx T s3)) (fun s4 => lbd (lNm 0 9 s4) (fun s5 =>
    lSg T 59 (lnx T (s5.1, sSl s1.1.2.2.2 s3.1.2.2.2 s5.1.2.2.2 s5.2.1, s5.2.2)))))))
def lE (T : TP) (s : XS) : XR := match (pEO T 7).1 (s.1, s.2.1.2.2.2, s.2.2.1) with
  | .inl p => .inl (p.1, sCo p.2.1 s.2.1, p.2.2, s.2.2.2)
  | .inr e => .inr e
def lLaw (T : TP) (s : XS) : XR :=
  if s.2.2.2.2.2 = true then lrf s
  else lbd (lW T 8 (lnx T (s.1, s.2.1, s.2.2.1, s.2.2.2.1, s.2.2.2.2.1, true))) (fun s1 => lbd (lNm 1 9 s1) (fun s2 =>
    lbd (lW T 9 (lnx T (s2.1, sUp s2.1.2.2.2 s2.2.1, s2.2.2))) (fun s3 => lbd (lNm 0 20 s3) (fun s4 =>
    lbd (lW T 10 (lnx T (s4.1, sRe s4.1.2.2.2 s4.2.1, s4.2.2))) (fun s5 => lbd (lNm 1 9 s5) (fun s6 =>
    lbd (lW T 11 (lnx T (s6.1, sSe (tN s6.1.2.2.2) s6.2.1, s6.2.2))) (fun s7 => lbd (lNm 0 9 s7) (fun s8 =>
    lbd (lW T 12 (lnx T (s8.1, sCo (gC s8.2.1, 0) (sSh s8.1.2.2.2 s8.2.1), 0, s8.2.2.2))) (fun s9 => lbd (lE T s9) (lSg T 59))))))))))
def lLine (T : TP) (s : XS) : XR :=
  if isWd T s.1 0 = true then lSeats T s
  else if isWd T s.1 1 = true then lPlaces T 0 s
  else if isWd T s.1 2 = true then lPlaces T 1 s
  else if isWd T s.1 3 = true then lPlaces T 2 s
  else if isWd T s.1 5 = true then lSlack T s
  else if isWd T s.1 7 = true then lLaw T s
  else lrf s
def lText (T : TP) : Nat → XS → XR
  | 0, s => .inl s
  | k + 1, s => if s.1.1 = 0 then .inl s else lbd (lLine T s) (lText T k)
