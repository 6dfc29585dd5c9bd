/-! the model: a slack's line, a row's line -/
def tbd (r : (Int32 × TK) ⊕ (Int32 × Nat)) (G : Int32 → TK → XR) : XR := match r with
  | .inl x => G x.1 x.2
  | .inr e => .inr e
theorem lW_tld {T : TP} {i : Nat} {a b : Int32} {s : XS} {g : XS → XR} {G : Int32 → TK → XR} (h : ∀ k : TK, g (k, s.2) = G k.2.2.2 (tkS T k.2.2.1)) : lbd (lW T i s) (fun s2 => lbd (lNm a b s2) g) = tbd (tld T i a b s.1) G := by
  unfold lW lNm tld
  by_cases h1 : isWd T s.1 i = true
  · rw [if_pos h1, if_pos h1, lbd_l]
    by_cases h2 : tkN (tkS T s.1.2.2.1) a b = true
    · rw [if_pos h2, if_pos (show tkN (lnx T s).1 a b = true from h2), lbd_l]
      exact h _
    · rw [if_neg h2, if_neg (show ¬ tkN (lnx T s).1 a b = true from h2)]
      rfl
  · rw [if_neg h1, if_neg h1]
    rfl
theorem lW_tl2 {T : TP} {i : Nat} {a b : Int32} {g : XS → XR} {G : Int32 → TK → XR} (k0 : TK) (r : RG × Nat × Bool × Bool × Bool) (h : ∀ k : TK, g (k, r) = G k.2.2.2 (tkS T k.2.2.1)) : lbd (lW T i (k0, r)) (fun s2 => lbd (lNm a b s2) g) = tbd (tld T i a b k0) G := lW_tld (s := (k0, r)) h
def nbd (T : TP) (a b : Int32) (k : TK) (G : Int32 → TK → XR) : XR := if tkN k a b = true then G k.2.2.2 (tkS T k.2.2.1) else .inr (tnF k, k.2.1)
theorem lN_nbd {T : TP} {a b : Int32} {s : XS} {g : XS → XR} {G : Int32 → TK → XR} (h : g s = G s.1.2.2.2 (tkS T s.1.2.2.1)) : lbd (lNm a b s) g = nbd T a b s.1 G := by
  unfold lNm nbd
  by_cases h2 : tkN s.1 a b = true
  · rw [if_pos h2, if_pos h2, lbd_l]; exact h
  · rw [if_neg h2, if_neg h2]; rfl
def bSlack (T : TP) (s : XS) : XR := nbd T 0 999 (tkS T s.1.2.2.1) (fun x k => tbd (tld T 4 x 999 k) (fun y k2 => tbd (tld T 6 0 9 k2) (fun z k3 => .inl (k3, sSl x y z s.2.1, s.2.2))))
theorem tbd_l {r : (Int32 × TK) ⊕ (Int32 × Nat)} {G : Int32 → TK → XR} {f : XS → XR} : lbd (tbd r G) f = tbd r (fun x k => lbd (G x k) f) := by cases r <;> rfl
theorem nbd_l {T : TP} {a b : Int32} {k : TK} {G : Int32 → TK → XR} {f : XS → XR} : lbd (nbd T a b k G) f = nbd T a b k (fun x k => lbd (G x k) f) := by unfold nbd; split <;> rfl
theorem lSlack_b (T : TP) (s : XS) : lSlack T s = if 6 ≤ s.2.1.2.1.2.2.2 then lrf s else lbd (bSlack T s) (lSg T 59) := by
  unfold lSlack bSlack
  rw [nbd_l]
  simp only [tbd_l]
  by_cases h6 : 6 ≤ s.2.1.2.1.2.2.2
  · rw [if_pos h6, if_pos h6]
  · rw [if_neg h6, if_neg h6]
    dsimp only [lnx]
    generalize tkS T s.1.2.2.1 = k1
    refine lN_nbd (s := (k1, s.2)) ?_
    dsimp only
    generalize tkS T k1.2.2.1 = k2
    refine lW_tl2 k2 s.2 (fun k => ?_)
    dsimp only
    generalize tkS T k.2.2.1 = k3
    exact lW_tl2 k3 s.2 (fun k' => rfl)
def bRow (T : TP) (w : Nat) (s : XS) : XR := nbd T 0 (nI (gN s.2.1 - 1)) (tkS T s.1.2.2.1) (fun x k => tbd (tld T 4 x (nI (gN s.2.1 - 1)) k) (fun y k2 => .inl (k2, sPl w (tN x) (tN y) s.2.1, s.2.2.1, s.2.2.2.1, true, s.2.2.2.2.2)))
theorem lPlaces_b (T : TP) (w : Nat) (s : XS) : lPlaces T w s = lbd (bRow T w s) (lSg T 59) := by
  unfold lPlaces bRow
  rw [nbd_l]
  simp only [tbd_l]
  dsimp only [lnx]
  generalize tkS T s.1.2.2.1 = k1
  refine lN_nbd (s := (k1, s.2.1, s.2.2.1, s.2.2.2.1, true, s.2.2.2.2.2)) ?_
  dsimp only
  generalize tkS T k1.2.2.1 = k2
  exact lW_tl2 k2 (s.2.1, s.2.2.1, s.2.2.2.1, true, s.2.2.2.2.2) (fun k => rfl)
def bE (T : TP) (k : TK) (g : RG) (f : Bool × Bool) : XR := if isWd T k 12 = true then (match (pEO T 7).1 (tkS T k.2.2.1, (gC g, 0), 0) with
  | .inl p => if isS T p.1 59 = true then .inl (p.1, sCo p.2.1 g, p.2.2, f.1, f.2, true) else .inr (rfF p.1, p.1.2.1)
  | .inr e => .inr e) else .inr (rfF k, k.2.1)
def bLaw (T : TP) (s : XS) : XR := tbd (tld T 8 1 9 (tkS T s.1.2.2.1)) (fun a k1 => tbd (tld T 9 0 20 k1) (fun b k2 => tbd (tld T 10 1 9 k2) (fun c k3 => tbd (tld T 11 0 9 k3) (fun d k4 => bE T k4 (sSh d (sSe (tN c) (sRe b (sUp a s.2.1)))) (s.2.2.2.1, s.2.2.2.2.1)))))
theorem bE_l {T : TP} {s : XS} {k : TK} {g : RG} (hk : s.1 = k) (hg : s.2.1 = sCo (gC g, 0) g) (hu : s.2.2.1 = 0) (hl : s.2.2.2.2.2 = true) : lbd (lW T 12 s) (fun s9 => lbd (lE T s9) (lSg T 59)) = lbd (bE T k g (s.2.2.2.1, s.2.2.2.2.1)) (lSg T 59) := by
  obtain ⟨k0, g0, u0, b1, b2, b3⟩ := s
  simp only at hk hg hu hl
  subst hk hg hu hl
  unfold bE lW
  by_cases h1 : isWd T k0 12 = true
  · simp only [if_pos h1, lbd_l]
    unfold lE lnx
    show lbd (match (pEO T 7).1 (tkS T k0.2.2.1, (gC g, 0), 0) with
      | .inl p => .inl (p.1, sCo p.2.1 (sCo (gC g, 0) g), p.2.2, b1, b2, true)
      | .inr e => .inr e) (lSg T 59) = _
    cases (pEO T 7).1 (tkS T k0.2.2.1, (gC g, 0), 0) with
    | inr e => rfl
    | inl p =>
      simp only [lbd_l]
      by_cases h59 : isS T p.1 59 = true
      · simp only [if_pos h59, lbd_l]; rfl
      · simp only [if_neg h59, lbd_r]
        rw [lSg_f h59]
  · simp only [if_neg h1]
    rfl
theorem lLaw_b (T : TP) (s : XS) : lLaw T s = if s.2.2.2.2.2 = true then lrf s else lbd (bLaw T s) (lSg T 59) := by
  unfold lLaw bLaw
  simp only [tbd_l]
  by_cases h : s.2.2.2.2.2 = true
  · rw [if_pos h, if_pos h]
  · rw [if_neg h, if_neg h]
    refine lW_tld (s := lnx T (s.1, s.2.1, s.2.2.1, s.2.2.2.1, s.2.2.2.2.1, true)) (fun k1 => ?_)
    refine lW_tld (fun k2 => ?_)
    refine lW_tld (fun k3 => ?_)
    refine lW_tld (fun k4 => ?_)
    exact bE_l rfl rfl rfl rfl
theorem mfl_a {I : wr_TI} {e : Int32 × Nat} {a k : Nat} {x : Int32} (h : mfl I e) (ha : a ≠ 55) : mfl (wr_uI I a k x) e := by
  unfold mfl at h ⊢
  rw [wr_uI_ne (fun z => ha z.symm)]
  exact h
theorem mfl_u {I : wr_TI} {e : Int32 × Nat} {k : Nat} {x : Int32} (h : mfl I e) (h2 : k ≠ 2) (h3 : k ≠ 3) : mfl (wr_uI I 55 k x) e := by
  unfold mfl at h ⊢
  have q2 : ¬ 2 = k := fun z => h2 z.symm
  have q3 : ¬ 3 = k := fun z => h3 z.symm
  simp only [wr_uI, q2, q3, and_false, if_false]
  exact h
set_option maxHeartbeats 4000000 in
set_option maxRecDepth 100000 in
theorem x_slackF {l : Launch} {R : wr_TR} (hR : wr_RC R) (I : wr_TI) (L : wr_TL) (T : TP) (n : Nat) (hn : n < 6) (e : Int32 × Nat) :
    (∀ J K x, mfl J e → frX I L J K → J 55 23 = nI n → wr_V l 4 mX8_readSlack 67 [some (.ref 55)] [.int x, .int (nI n), .ref 65] SH J K R 0 0 (mQ I L R T (.inr e))) ∧ (∀ J K x, mfl J e → frX I L J K → J 55 23 = nI n → wr_V l 4 mX8_readSlack 48 [some (.ref 55)] [.int x, .int (nI n), .ref 64] SH J K R 0 0 (mQ I L R T (.inr e))) ∧ ∀ J K x, mfl J e → frX I L J K → J 55 23 = nI n → wr_V l 4 mX8_readSlack 20 [some (.ref 55)] [.int x, .int (nI n), .ref 63] SH J K R 0 0 (mQ I L R T (.inr e)) := by
  have f67 : ∀ J K x, mfl J e → frX I L J K → J 55 23 = nI n → wr_V l 4 mX8_readSlack 67 [some (.ref 55)] [.int x, .int (nI n), .ref 65] SH J K R 0 0 (mQ I L R T (.inr e)) := by
    intro J K x h hf h23
    refine wv_iastN dX8_readSlack_67 (by first | assumption | rfl) (by omega) (by decide) ?_
    refine wv_aload_n dX8_readSlack_68 rfl ?_
    refine wv_dup dX8_readSlack_69 rfl ?_
    refine wv_getI fX8_322 dX8_readSlack_70 rfl (by first | assumption | rfl) ?_
    refine wv_iconst (v := 1) dX8_readSlack_73 (by decide) ?_
    refine wv_iadd dX8_readSlack_74 ?_
    refine wv_putI fX8_322 dX8_readSlack_75 rfl rfl rfl rfl (by first | assumption | rfl) ?_
    refine wv_ret (x := ()) rfl dX8_readSlack_78 ?_
    exact ⟨rfl, rfl, rfl, frX_tr hf (frX_tr (frX_a (by decide) (by omega)) (frX_u (by decide))), mfl_u (mfl_a h (by omega)) (by omega) (by omega)⟩
  have f48 : ∀ J K x, mfl J e → frX I L J K → J 55 23 = nI n → wr_V l 4 mX8_readSlack 48 [some (.ref 55)] [.int x, .int (nI n), .ref 64] SH J K R 0 0 (mQ I L R T (.inr e)) := by
    intro J K x h hf h23
    refine wv_iastN dX8_readSlack_48 (by first | assumption | rfl) (by omega) (by decide) ?_
    refine wv_aload_n dX8_readSlack_49 rfl ?_
    refine wv_getR fX8_42 dX8_readSlack_50 rfl (by first | assumption | rfl) (by first | exact hR _ _ _ rfl | assumption) ?_
    refine wv_aload_n dX8_readSlack_53 rfl ?_
    refine wv_getI fX8_322 dX8_readSlack_54 rfl (by first | assumption | rfl) ?_
    rw [wr_uI_ne (by omega), h23]
    refine wv_aload_n dX8_readSlack_57 rfl ?_
    refine wv_ldc2_w nX8_327 dX8_readSlack_58 ?_
    refine wv_iconst (v := 0) dX8_readSlack_61 (by decide) ?_
    refine wv_bipush (v := 9) dX8_readSlack_62 (by decide) ?_
    refine wv_v3e oX8_told kX8_286 dX8_readSlack_64 (by omega) (by first | assumption | rfl) ⟨rfl, by decide⟩ (Nat.le_of_ble_eq_true rfl) (Nat.le_of_ble_eq_true rfl) (x_told9 (by rw [wr_uI_ne (by omega), h.1]; exact h.2.2) _ _ _) ?_
    exact f67 _ _ _ (mfl_a h (by omega)) (frX_tr hf (frX_a (by decide) (by omega))) (by rw [wr_uI_ne (by omega)]; exact h23)
  refine ⟨f67, f48, ?_⟩
  intro J K x h hf h23
  refine wv_iastN dX8_readSlack_20 (by first | assumption | rfl) (by omega) (by decide) ?_
  refine wv_aload_n dX8_readSlack_21 rfl ?_
  refine wv_getR fX8_39 dX8_readSlack_22 rfl (by first | assumption | rfl) (by first | exact hR _ _ _ rfl | assumption) ?_
  refine wv_aload_n dX8_readSlack_25 rfl ?_
  refine wv_getI fX8_322 dX8_readSlack_26 rfl (by first | assumption | rfl) ?_
  rw [wr_uI_ne (by omega), h23]
  refine wv_aload_n dX8_readSlack_29 rfl ?_
  refine wv_ldc2_w nX8_325 dX8_readSlack_30 ?_
  refine wv_aload_n dX8_readSlack_33 rfl ?_
  refine wv_getR fX8_36 dX8_readSlack_34 rfl (by first | assumption | rfl) (by first | exact hR _ _ _ rfl | assumption) ?_
  refine wv_aload_n dX8_readSlack_37 rfl ?_
  refine wv_getI fX8_322 dX8_readSlack_38 rfl (by first | assumption | rfl) ?_
  rw [wr_uI_ne (by omega), h23]
  refine wv_ialdN dX8_readSlack_41 (by first | assumption | rfl) (by omega) (by decide) ?_
  refine wv_sipush (v := 999) dX8_readSlack_42 (by decide) ?_
  refine wv_v3e oX8_told kX8_286 dX8_readSlack_45 (by omega) (by first | assumption | rfl) ⟨rfl, by decide⟩ (Nat.le_of_ble_eq_true rfl) (Nat.le_of_ble_eq_true rfl) (x_told9 (by rw [wr_uI_ne (by omega), h.1]; exact h.2.2) _ _ _) ?_
  exact f48 _ _ _ (mfl_a h (by omega)) (frX_tr hf (frX_a (by decide) (by omega))) (by rw [wr_uI_ne (by omega)]; exact h23)

