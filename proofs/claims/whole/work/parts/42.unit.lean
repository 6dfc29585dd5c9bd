/-! a law's e, as it is read: the token here, the code so far, the units -/
abbrev PS : Type := TK × ((Nat → Int32) × Nat) × Nat
abbrev PR : Type := PS ⊕ (Int32 × Nat)
def nxt (T : TP) (s : PS) : PS := (tkS T s.1.2.2.1, s.2)
def adC (x : Int32) (s : PS) : PS := (s.1, (if s.2.1.2 < 260 then (upd s.2.1.1 s.2.1.2 x, s.2.1.2 + 1) else s.2.1), s.2.2)
def unC (s : PS) : PS := (s.1, s.2.1, s.2.2 + 1)
def rfR (s : PS) : PR := .inr (rfF s.1, s.1.2.1)
def pb (r : PR) (f : PS → PR) : PR := match r with
  | .inl s => f s
  | .inr e => .inr e
def pU (T : TP) (inn : PS → PR) (s : PS) : PR :=
  if 30 ≤ s.2.2 then rfR s
  else if isS T s.1 40 = true then inn s
  else if s.1.1 ≠ 2 ∧ lkH T s.1 = -1 then rfR s
  else .inl (nxt T (unC (adC (if s.1.1 = 2 then s.1.2.2.2 else 10000 + lkH T s.1) s)))
def pNest (T : TP) (E : PS → PR) (s : PS) : PR := pb (E (nxt T (unC s))) (fun s' => if isS T s'.1 41 = true then .inl (nxt T s') else rfR s')
def pLp (T : TP) (test : TK → Bool) (opf : TK → Int32) (X : PS → PR) : Nat → PS → PR
  | 0, s => .inl s
  | k + 1, s => if test s.1 = true then pb (X (nxt T s)) (fun s' => pLp T test opf X k (adC (opf s.1) s')) else .inl s
def tTm (T : TP) (k : TK) : Bool := isS T k 42
def tSm (T : TP) (k : TK) : Bool := isS T k 43 || isS T k 45
def oSm (T : TP) (k : TK) : Int32 := if isS T k 43 = true then 20006 else 20007
def pT (T : TP) (U : PS → PR) (s : PS) : PR := pb (U s) (pLp T (tTm T) (fun _ => 20008) U 30)
def pS (T : TP) (U : PS → PR) (s : PS) : PR := pb (pT T U s) (pLp T (tSm T) (oSm T) (pT T U) 30)
def pO (T : TP) (U inO : PS → PR) (s : PS) : PR :=
  if isWd T s.1 13 = true then inO s
  else pb (pS T U s) (fun s' => if rlH T s'.1 = -1 then .inl s' else pb (pS T U (nxt T s')) (fun s2 => .inl (adC (rlH T s'.1) s2)))
def pB (T : TP) (O : PS → PR) (s : PS) : PR := pb (O s) (pLp T (fun k => isWd T k 20) (fun _ => 20001) O 30)
def pE (T : TP) (O : PS → PR) (s : PS) : PR := pb (pB T O s) (pLp T (fun k => isWd T k 21) (fun _ => 20002) (pB T O) 30)
def pNot (T : TP) (O : PS → PR) (s : PS) : PR := pb (O (nxt T s)) (fun s' => .inl (adC 20000 s'))
/-- E and O, with so many more levels to go -/
def pEO (T : TP) : Nat → (PS → PR) × (PS → PR)
  | 0 => (pE T (pO T (pU T rfR) rfR), pO T (pU T rfR) rfR)
  | f + 1 => (pE T (pO T (pU T (pNest T (pEO T f).1)) (pNot T (pEO T f).2)), pO T (pU T (pNest T (pEO T f).1)) (pNot T (pEO T f).2))
/-- in the reader's cells -/
def psV (I : wr_TI) (t : Nat) (s : PS) : Prop := tkV I s.1 ∧ tkO s.1 ∧ I (t + 2) = s.2.1.1 ∧ I (t + 1) 2 = nI s.2.1.2 ∧ s.2.1.2 ≤ 260 ∧ I (t + 1) 3 = nI s.2.2 ∧ s.2.2 ≤ 30
def frE (t : Nat) (I I' : wr_TI) : Prop := (∀ b, b ≠ 17 → b ≠ t + 1 → b ≠ t + 2 → I' b = I b) ∧ (∀ k, k < 5 → I' 17 k = I 17 k) ∧ ∀ k, k ≠ 2 → k ≠ 3 → I' (t + 1) k = I (t + 1) k
def noF (I I' : wr_TI) : Prop := I' 17 9 = I 17 9 ∧ I' 17 10 = I 17 10
def pQ (L : wr_TL) (R : wr_TR) (t : Nat) (I : wr_TI) (r : PR) : wr_TQ := fun v s' I' L' R' => s' = SH ∧ L' = L ∧ R' = R ∧ frE t I I' ∧ match r with
  | .inl s => v = some (.int 1) ∧ psV I' t s ∧ noF I I'
  | .inr e => v = some (.int 0) ∧ I' 17 9 = e.1 ∧ I' 17 10 = nI e.2 ∧ ∃ n, n ≤ 260 ∧ I' (t + 1) 2 = nI n
def CT (l : Launch) (L : wr_TL) (R : wr_TR) (T : TP) (t d : Nat) (m : wr_M) (dp : Nat) (X : PS → PR) : Prop := ∀ I s, tpV I T → psV I t s → wr_P l d m [.ref 17, .int (nI dp)] SH I L R (pQ L R t I (X s))
theorem frE_rf {t : Nat} {I : wr_TI} : frE t I I := ⟨fun _ _ _ _ => rfl, fun _ _ => rfl, fun _ _ _ => rfl⟩
theorem frE_tr {t : Nat} {I J K : wr_TI} (h1 : frE t I J) (h2 : frE t J K) : frE t I K := ⟨fun b b1 b2 b3 => (h2.1 b b1 b2 b3).trans (h1.1 b b1 b2 b3), fun k hk => (h2.2.1 k hk).trans (h1.2.1 k hk), fun k b1 b2 => (h2.2.2 k b1 b2).trans (h1.2.2 k b1 b2)⟩
theorem noF_tr {I J K : wr_TI} (h1 : noF I J) (h2 : noF J K) : noF I K := ⟨h2.1.trans h1.1, h2.2.trans h1.2⟩
theorem frE_K {t : Nat} {I J : wr_TI} (ht : t = 3 ∨ t = 10) (h : frK I J) : frE t I J := ⟨fun b b1 _ _ => h.1 b b1, fun k hk => h.2 k (by omega) (by omega) (by omega) (by omega), fun k _ _ => by rw [h.1 (t + 1) (by omega)]⟩
theorem noF_K {I J : wr_TI} (h : frK I J) : noF I J := ⟨h.2 9 (by omega) (by omega) (by omega) (by omega), h.2 10 (by omega) (by omega) (by omega) (by omega)⟩
theorem frE_T {t : Nat} {I J : wr_TI} {T : TP} (ht : t = 3 ∨ t = 10) (h : frE t I J) (hT : tpV I T) : tpV J T := tpV_fr hT (h.1 1 (by omega) (by omega) (by omega)) (h.1 2 (by omega) (by omega) (by omega))
theorem psV_nx {t : Nat} {I J : wr_TI} {T : TP} {s : PS} (ht : t = 3 ∨ t = 10) (hT : T.1 ≤ 800) (h : psV I t s) (hk : tkV J (tkS T s.1.2.2.1)) (hf : frK I J) : psV J t (nxt T s) := by
  obtain ⟨h1, h2, h3, h4, h5, h6, h7⟩ := h
  refine ⟨hk, tkS_o hT h2.2.2, ?_, ?_, h5, ?_, h7⟩
  · rw [hf.1 (t + 2) (by omega)]; exact h3
  · rw [hf.1 (t + 1) (by omega)]; exact h4
  · rw [hf.1 (t + 1) (by omega)]; exact h6
def adI (I : wr_TI) (t n : Nat) (x : Int32) : wr_TI := if n < 260 then laI I t n x else I
theorem adI_17 {I : wr_TI} {t n : Nat} {x : Int32} (ht : t = 3 ∨ t = 10) : adI I t n x 17 = I 17 := by
  unfold adI
  split
  · unfold laI; rw [wr_uI_ne (by omega), wr_uI_ne (by omega)]
  · rfl
theorem adI_fr {I : wr_TI} {t n : Nat} {x : Int32} (ht : t = 3 ∨ t = 10) : frE t I (adI I t n x) := by
  refine ⟨fun b b1 b2 b3 => ?_, fun k _ => by rw [adI_17 ht], fun k b1 b2 => ?_⟩
  · unfold adI
    split
    · unfold laI; rw [wr_uI_ne b2, wr_uI_ne b3]
    · rfl
  · unfold adI
    split
    · simp [laI, wr_uI, b1]
    · rfl
theorem psV_ad {t : Nat} {I : wr_TI} {s : PS} (ht : t = 3 ∨ t = 10) (h : psV I t s) (x : Int32) : psV (adI I t s.2.1.2 x) t (adC x s) := by
  obtain ⟨h1, h2, h3, h4, h5, h6, h7⟩ := h
  have e17 : adI I t s.2.1.2 x 17 = I 17 := adI_17 ht
  refine ⟨?_, h2, ?_, ?_, ?_, ?_, h7⟩
  · unfold tkV at h1 ⊢; rw [e17]; exact h1
  · unfold adI adC
    by_cases hn : s.2.1.2 < 260
    · rw [if_pos hn]
      simp only [hn, if_true]
      funext b
      rw [← h3]
      simp [laI, wr_uI, upd]
    · rw [if_neg hn]; simp only [hn, if_false]; exact h3
  · unfold adI adC
    by_cases hn : s.2.1.2 < 260
    · rw [if_pos hn]; simp only [hn, if_true]; simp [laI, wr_uI]
    · rw [if_neg hn]; simp only [hn, if_false]; exact h4
  · unfold adC
    by_cases hn : s.2.1.2 < 260
    · simp only [hn, if_true]; omega
    · simp only [hn, if_false]; exact h5
  · unfold adI
    by_cases hn : s.2.1.2 < 260
    · rw [if_pos hn]; simp [laI, wr_uI, h6, adC]
    · rw [if_neg hn]; exact h6
theorem adI_n {t : Nat} {I : wr_TI} {n : Nat} {x : Int32} (h : I (t + 1) 2 = nI n) (hn : n ≤ 260) : ∃ n', n' ≤ 260 ∧ adI I t n x (t + 1) 2 = nI n' := by
  unfold adI
  by_cases hc : n < 260
  · rw [if_pos hc]; exact ⟨n + 1, by omega, by simp [laI, wr_uI]⟩
  · rw [if_neg hc]; exact ⟨n, hn, h⟩
set_option maxHeartbeats 4000000 in
set_option maxRecDepth 100000 in
theorem cL_addG {l : Launch} {I : wr_TI} {L : wr_TL} {R : wr_TR} (t n : Nat) (x : Int32) (hg : isG R t) (hl : I (t + 1) 2 = nI n) (hn : n ≤ 260) : wr_E l 0 mX2_add [.ref (t + 1), .int x] SH I L R none (adI I t n x) L R := by
  unfold adI
  by_cases hc : n < 260
  · rw [if_pos hc]; exact cL_add t n x hg hl hc
  · rw [if_neg hc]
    obtain ⟨y0, g0, g1, g2, g3, g4, g5, g6, p0, p1, p2, p3, p4, p5⟩ := id hg
    refine wv_pad 0 ?_
    show wr_V l 0 mX2_add 0 [some (.ref (t + 1)), some (.int x)] [] SH I L R 0 0 _
    refine wv_aload_n dX2_add_0 rfl ?_
    refine wv_getI fX2_18 dX2_add_1 rfl (by first | assumption | rfl) ?_
    refine wv_if_lt (tgt := 39) dX2_add_4 (by decide) (fun h4 => absurd h4 (by rw [hl]; exact nI_pos (by omega))) (fun h4 => ?_)
    refine wv_aload_n dX2_add_7 rfl ?_
    refine wv_getI fX2_18 dX2_add_8 rfl (by first | assumption | rfl) ?_
    refine wv_aload_n dX2_add_11 rfl ?_
    refine wv_getR fX2_9 dX2_add_12 rfl (by first | assumption | rfl) (by first | exact hR _ _ _ rfl | assumption) ?_
    refine wv_alen dX2_add_15 (t := 0) (by decide) (by first | assumption | rfl) ?_
    refine wv_icmp_ge (tgt := 39) dX2_add_16 (by decide) (fun h16 => ?_) (fun h16 => absurd (by rw [hl]; exact nI_le (a := 260) (by omega) (by omega)) h16)
    refine wv_ret (x := ()) rfl dX2_add_39 ?_
    exact ⟨rfl, rfl, rfl, rfl, rfl⟩

set_option maxHeartbeats 4000000 in
set_option maxRecDepth 100000 in
theorem cL_unitG {l : Launch} {I : wr_TI} {L : wr_TL} {R : wr_TR} (t n : Nat) (x : Int32) (hg : isG R t) (hl : I (t + 1) 2 = nI n) (hn : n ≤ 260) : wr_E l 1 mX2_addUnit [.ref (t + 1), .int x] SH I L R none (wr_uI (adI I t n x) (t + 1) 3 (I (t + 1) 3 + 1)) L R := by
  obtain ⟨y0, g0, g1, g2, g3, g4, g5, g6, p0, p1, p2, p3, p4, p5⟩ := id hg
  have e : adI I t n x (t + 1) 3 = I (t + 1) 3 := by unfold adI; split <;> simp [laI, wr_uI]
  refine wv_pad 0 ?_
  show wr_V l 1 mX2_addUnit 0 [some (.ref (t + 1)), some (.int x)] [] SH I L R 0 0 _
  refine wv_aload_n dX2_addUnit_0 rfl ?_
  refine wv_iload_n dX2_addUnit_1 rfl ?_
  refine wv_v1u oX2_add kX2_25 dX2_addUnit_2 (by omega) (by first | assumption | rfl) ⟨rfl, by decide⟩ (Nat.le_of_ble_eq_true rfl) (Nat.le_of_ble_eq_true rfl) (cL_addG t n _ hg hl hn) ?_
  refine wv_aload_n dX2_addUnit_5 rfl ?_
  refine wv_dup dX2_addUnit_6 rfl ?_
  refine wv_getI fX2_22 dX2_addUnit_7 rfl (by first | assumption | rfl) ?_
  refine wv_iconst (v := 1) dX2_addUnit_10 (by decide) ?_
  refine wv_iadd dX2_addUnit_11 ?_
  refine wv_putI fX2_22 dX2_addUnit_12 rfl rfl rfl rfl (by first | assumption | rfl) ?_
  refine wv_ret (x := ()) rfl dX2_addUnit_15 ?_
  refine ⟨rfl, rfl, ?_, rfl, rfl⟩
  rw [e]

theorem psV_un {t : Nat} {I : wr_TI} {s : PS} (h : psV I t s) (ht : t = 3 ∨ t = 10) (hu : s.2.2 < 30) : psV (wr_uI I (t + 1) 3 (I (t + 1) 3 + 1)) t (unC s) := by
  obtain ⟨h1, h2, h3, h4, h5, h6, h7⟩ := h
  refine ⟨?_, h2, ?_, ?_, h5, ?_, by show s.2.2 + 1 ≤ 30; omega⟩
  · unfold tkV at h1 ⊢; rw [wr_uI_ne (by omega)]; exact h1
  · rw [wr_uI_ne (by omega)]; exact h3
  · simp only [wr_uI]; rw [if_neg (by omega)]; exact h4
  · simp only [wr_uI, and_self, if_true, h6]; exact nI_1 _
theorem frE_un {t : Nat} {I : wr_TI} {x : Int32} (ht : t = 3 ∨ t = 10) : frE t I (wr_uI I (t + 1) 3 x) := ⟨fun b _ b2 _ => wr_uI_ne b2, fun k _ => by rw [wr_uI_ne (by omega)], fun k _ b2 => by simp [wr_uI, b2]⟩
theorem rf_Q {L : wr_TL} {R : wr_TR} {t : Nat} {I J : wr_TI} {s : PS} (ht : t = 3 ∨ t = 10) (hf : frE t I J) (h : psV J t s) : pQ L R t I (rfR s) (some (.int 0)) SH (rfI J (rfF s.1) s.1) L R := by
  refine ⟨rfl, rfl, rfl, ⟨fun b b1 b2 b3 => ?_, fun k hk => ?_, fun k b1 b2 => ?_⟩, rfl, ?_, ?_, s.2.1.2, h.2.2.2.2.1, ?_⟩
  · unfold rfI; rw [wr_uI_ne b1, wr_uI_ne b1]; exact hf.1 b b1 b2 b3
  · have h1 : ¬ k = 9 := by omega
    have h2 : ¬ k = 10 := by omega
    simp only [rfI, wr_uI, h1, h2, and_false, if_false]; exact hf.2.1 k hk
  · unfold rfI; rw [wr_uI_ne (by omega), wr_uI_ne (by omega)]; exact hf.2.2 k b1 b2
  · simp [rfI, wr_uI]
  · simp [rfI, wr_uI]
  · unfold rfI; rw [wr_uI_ne (by omega), wr_uI_ne (by omega)]; exact h.2.2.2.1
set_option maxHeartbeats 4000000 in
set_option maxRecDepth 100000 in
theorem cD_unit {l : Launch} {L : wr_TL} {R : wr_TR} {T : TP} {t : Nat} (hR : wr_RC R) (ht : t = 3 ∨ t = 10) (hin : R 17 1 = t + 1) (d dp : Nat) (hd : 5 ≤ d) (inn : PS → PR) (hN : ∀ I s, tpV I T → psV I t s → s.2.2 < 30 → wr_P l d mX4_readNested [.ref 17, .int (nI dp)] SH I L R (pQ L R t I (inn s))) : CT l L R T t (d + 1) mX4_readUnit dp (pU T inn) := by
  intro I s hT hs
  have hg := isG_of hR ht
  obtain ⟨y0, g0, g1, g2, g3, g4, g5, g6, p0, p1, p2, p3, p4, p5⟩ := id hg
  obtain ⟨s1, s2, s3, s4, s5, s6, s7⟩ := id hs
  obtain ⟨k1, k2, k3, k4⟩ := id s1
  obtain ⟨o1, o2, o3⟩ := id s2
  show wr_P _ _ _ _ _ _ _ _ (pQ L R t I (pU T inn s))
  unfold pU
  by_cases h30 : 30 ≤ s.2.2
  · rw [if_pos h30]
    refine wv_pad 1 ?_
    show wr_V l (d + 1) mX4_readUnit 0 [some (.ref 17), some (.int (nI dp)), none] [] SH I L R 0 0 _
    refine wv_aload_n dX4_readUnit_0 rfl ?_
    refine wv_getR fX4_15 dX4_readUnit_1 rfl (by first | assumption | rfl) (by first | exact hR _ _ _ rfl | assumption) ?_
    refine wv_getR fX4_140 dX4_readUnit_4 rfl (by first | assumption | rfl) (by first | exact hR _ _ _ rfl | assumption) ?_
    refine wv_getI fX4_186 dX4_readUnit_7 rfl (by first | assumption | rfl) ?_
    refine wv_bipush (v := 30) dX4_readUnit_10 (by decide) ?_
    refine wv_icmp_lt (tgt := 20) dX4_readUnit_12 (by decide) (fun h12 => absurd h12 (by rw [s6]; exact nI_nlt (b := 30) (by omega) (by omega))) (fun h12 => ?_)
    refine wv_aload_n dX4_readUnit_15 rfl ?_
    refine wv_v0e oX4_refuse kX4_82 dX4_readUnit_16 (by omega) (by first | assumption | rfl) ⟨rfl, by decide⟩ (Nat.le_of_ble_eq_true rfl) (Nat.le_of_ble_eq_true rfl) (cD_refuse hR s.1 s1 s2) ?_
    refine wv_zret rfl rfl dX4_readUnit_19 ?_
    exact rf_Q ht frE_rf hs
  · rw [if_neg h30]
    by_cases h40 : isS T s.1 40 = true
    · rw [if_pos h40]
      refine wv_pad 1 ?_
      show wr_V l (d + 1) mX4_readUnit 0 [some (.ref 17), some (.int (nI dp)), none] [] SH I L R 0 0 _
      refine wv_aload_n dX4_readUnit_0 rfl ?_
      refine wv_getR fX4_15 dX4_readUnit_1 rfl (by first | assumption | rfl) (by first | exact hR _ _ _ rfl | assumption) ?_
      refine wv_getR fX4_140 dX4_readUnit_4 rfl (by first | assumption | rfl) (by first | exact hR _ _ _ rfl | assumption) ?_
      refine wv_getI fX4_186 dX4_readUnit_7 rfl (by first | assumption | rfl) ?_
      refine wv_bipush (v := 30) dX4_readUnit_10 (by decide) ?_
      refine wv_icmp_lt (tgt := 20) dX4_readUnit_12 (by decide) (fun h12 => ?_) (fun h12 => absurd (by rw [s6]; exact nI_lt (b := 30) (by omega) (by omega)) h12)
      refine wv_aload_n dX4_readUnit_20 rfl ?_
      refine wv_bipush (v := 40) dX4_readUnit_21 (by decide) ?_
      refine wv_v1e oX4_isSign kX4_177 dX4_readUnit_23 (by omega) (by first | assumption | rfl) ⟨rfl, by decide⟩ (Nat.le_of_ble_eq_true rfl) (Nat.le_of_ble_eq_true rfl) (cD_isSign hR T s.1 hT s1 s2 _) ?_
      refine wv_if_eq (tgt := 35) dX4_readUnit_26 (by decide) (fun h26 => absurd h26 (by rw [if_pos h40]; decide)) (fun h26 => ?_)
      refine wv_aload_n dX4_readUnit_29 rfl ?_
      refine wv_iload_n dX4_readUnit_30 rfl ?_
      refine wv_v1 oX4_readNested kX4_189 dX4_readUnit_31 (by omega) (by first | assumption | rfl) ⟨rfl, by decide⟩ (Nat.le_of_ble_eq_true rfl) (Nat.le_of_ble_eq_true rfl) (hN I s hT hs (by omega)) (fun v9 s9 J9 L9 R9 h9 => ?_)
      cases hx : inn s with
      | inl s' =>
        rw [hx] at h9
        obtain ⟨rfl, rfl, rfl, hf9, rfl, h9⟩ := h9
        refine wv_zret rfl rfl dX4_readUnit_34 ?_
        exact ⟨rfl, rfl, rfl, hf9, rfl, h9⟩
      | inr e =>
        rw [hx] at h9
        obtain ⟨rfl, rfl, rfl, hf9, rfl, h9⟩ := h9
        refine wv_zret rfl rfl dX4_readUnit_34 ?_
        exact ⟨rfl, rfl, rfl, hf9, rfl, h9⟩
    · rw [if_neg h40]
      have e26 : (if isS T s.1 40 = true then (1 : Int32) else 0) = 0 := if_neg h40
      by_cases hno : s.1.1 ≠ 2 ∧ lkH T s.1 = -1
      · rw [if_pos hno]
        refine wv_pad 1 ?_
        show wr_V l (d + 1) mX4_readUnit 0 [some (.ref 17), some (.int (nI dp)), none] [] SH I L R 0 0 _
        refine wv_aload_n dX4_readUnit_0 rfl ?_
        refine wv_getR fX4_15 dX4_readUnit_1 rfl (by first | assumption | rfl) (by first | exact hR _ _ _ rfl | assumption) ?_
        refine wv_getR fX4_140 dX4_readUnit_4 rfl (by first | assumption | rfl) (by first | exact hR _ _ _ rfl | assumption) ?_
        refine wv_getI fX4_186 dX4_readUnit_7 rfl (by first | assumption | rfl) ?_
        refine wv_bipush (v := 30) dX4_readUnit_10 (by decide) ?_
        refine wv_icmp_lt (tgt := 20) dX4_readUnit_12 (by decide) (fun h12 => ?_) (fun h12 => absurd (by rw [s6]; exact nI_lt (b := 30) (by omega) (by omega)) h12)
        refine wv_aload_n dX4_readUnit_20 rfl ?_
        refine wv_bipush (v := 40) dX4_readUnit_21 (by decide) ?_
        refine wv_v1e oX4_isSign kX4_177 dX4_readUnit_23 (by omega) (by first | assumption | rfl) ⟨rfl, by decide⟩ (Nat.le_of_ble_eq_true rfl) (Nat.le_of_ble_eq_true rfl) (cD_isSign hR T s.1 hT s1 s2 _) ?_
        refine wv_if_eq (tgt := 35) dX4_readUnit_26 (by decide) (fun h26 => ?_) (fun h26 => absurd e26 h26)
        refine wv_aload_n dX4_readUnit_35 rfl ?_
        refine wv_v0e oX4_lookHere kX4_192 dX4_readUnit_36 (by omega) (by first | assumption | rfl) ⟨rfl, by decide⟩ (Nat.le_of_ble_eq_true rfl) (Nat.le_of_ble_eq_true rfl) (cD_look hR T s.1 hT s1 s2) ?_
        refine wv_istore_k (i := 2) dX4_readUnit_39 rfl (by decide) ?_
        refine wv_aload_n dX4_readUnit_40 rfl ?_
        refine wv_getI fX4_47 dX4_readUnit_41 rfl (by first | assumption | rfl) ?_
        refine wv_iconst (v := 2) dX4_readUnit_44 (by decide) ?_
        rw [k1]
        refine wv_icmp_eq (tgt := 58) dX4_readUnit_45 (by decide) (fun h45 => absurd h45 (fun q => hno.1 ((nI_eq (b := 2) (by omega) (by omega)).mp q))) (fun h45 => ?_)
        refine wv_iload_n dX4_readUnit_48 rfl ?_
        refine wv_iconst (v := (-1)) dX4_readUnit_49 (by decide) ?_
        refine wv_icmp_ne (tgt := 58) dX4_readUnit_50 (by decide) (fun h50 => absurd hno.2 h50) (fun h50 => ?_)
        refine wv_aload_n dX4_readUnit_53 rfl ?_
        refine wv_v0e oX4_refuse kX4_82 dX4_readUnit_54 (by omega) (by first | assumption | rfl) ⟨rfl, by decide⟩ (Nat.le_of_ble_eq_true rfl) (Nat.le_of_ble_eq_true rfl) (cD_refuse hR s.1 s1 s2) ?_
        refine wv_zret rfl rfl dX4_readUnit_57 ?_
        exact rf_Q ht frE_rf hs
      · rw [if_neg hno]
        have fin : ∀ x : Int32, x = (if s.1.1 = 2 then s.1.2.2.2 else 10000 + lkH T s.1) → wr_V l (d + 1) mX4_readUnit 85 [some (.ref 17), some (.int (nI dp)), none] [.int x, .ref (t + 1)] SH I L R 0 0 (pQ L R t I (.inl (nxt T (unC (adC (if s.1.1 = 2 then s.1.2.2.2 else 10000 + lkH T s.1) s))))) := by
          intro x hx
          rw [← hx]
          have e3 : adI I t s.2.1.2 x (t + 1) 3 = I (t + 1) 3 := by unfold adI; split <;> simp [laI, wr_uI]
          have hs5 : psV (wr_uI (adI I t s.2.1.2 x) (t + 1) 3 (I (t + 1) 3 + 1)) t (unC (adC x s)) := by
            rw [← e3]
            exact psV_un (psV_ad ht hs x) ht (by show s.2.2 < 30; omega)
          have hf5 : frE t I (wr_uI (adI I t s.2.1.2 x) (t + 1) 3 (I (t + 1) 3 + 1)) := frE_tr (adI_fr ht) (frE_un ht)
          have hT9 := frE_T ht hf5 hT
          refine wv_v1u oX2_addUnit kX4_195 dX4_readUnit_85 (by omega) (by first | assumption | rfl) ⟨rfl, by decide⟩ (Nat.le_of_ble_eq_true rfl) (Nat.le_of_ble_eq_true rfl) (cL_unitG t s.2.1.2 x hg s4 s5) ?_
          refine wv_aload_n dX4_readUnit_88 rfl ?_
          refine wv_v0 oX4_step kX4_44 dX4_readUnit_89 (by omega) (by first | assumption | rfl) ⟨rfl, by decide⟩ (Nat.le_of_ble_eq_true rfl) (Nat.le_of_ble_eq_true rfl) (cD_step hR T s.1.2.2.1 hT9 o3 hs5.1.2.2.1) (fun v9 s9 J9 L9 R9 h9 => ?_)
          obtain ⟨rfl, rfl, rfl, rfl, hk9, hf9⟩ := h9
          refine wv_iconst (v := 1) dX4_readUnit_92 (by decide) ?_
          refine wv_zret rfl rfl dX4_readUnit_93 ?_
          refine ⟨rfl, rfl, rfl, frE_tr hf5 (frE_K ht hf9), rfl, psV_nx ht hT.2.1 hs5 hk9 hf9, noF_tr ⟨?_, ?_⟩ (noF_K hf9)⟩
          · rw [wr_uI_ne (by omega), adI_17 ht]
          · rw [wr_uI_ne (by omega), adI_17 ht]
        refine wv_pad 1 ?_
        show wr_V l (d + 1) mX4_readUnit 0 [some (.ref 17), some (.int (nI dp)), none] [] SH I L R 0 0 _
        refine wv_aload_n dX4_readUnit_0 rfl ?_
        refine wv_getR fX4_15 dX4_readUnit_1 rfl (by first | assumption | rfl) (by first | exact hR _ _ _ rfl | assumption) ?_
        refine wv_getR fX4_140 dX4_readUnit_4 rfl (by first | assumption | rfl) (by first | exact hR _ _ _ rfl | assumption) ?_
        refine wv_getI fX4_186 dX4_readUnit_7 rfl (by first | assumption | rfl) ?_
        refine wv_bipush (v := 30) dX4_readUnit_10 (by decide) ?_
        refine wv_icmp_lt (tgt := 20) dX4_readUnit_12 (by decide) (fun h12 => ?_) (fun h12 => absurd (by rw [s6]; exact nI_lt (b := 30) (by omega) (by omega)) h12)
        refine wv_aload_n dX4_readUnit_20 rfl ?_
        refine wv_bipush (v := 40) dX4_readUnit_21 (by decide) ?_
        refine wv_v1e oX4_isSign kX4_177 dX4_readUnit_23 (by omega) (by first | assumption | rfl) ⟨rfl, by decide⟩ (Nat.le_of_ble_eq_true rfl) (Nat.le_of_ble_eq_true rfl) (cD_isSign hR T s.1 hT s1 s2 _) ?_
        refine wv_if_eq (tgt := 35) dX4_readUnit_26 (by decide) (fun h26 => ?_) (fun h26 => absurd e26 h26)
        refine wv_aload_n dX4_readUnit_35 rfl ?_
        refine wv_v0e oX4_lookHere kX4_192 dX4_readUnit_36 (by omega) (by first | assumption | rfl) ⟨rfl, by decide⟩ (Nat.le_of_ble_eq_true rfl) (Nat.le_of_ble_eq_true rfl) (cD_look hR T s.1 hT s1 s2) ?_
        refine wv_istore_k (i := 2) dX4_readUnit_39 rfl (by decide) ?_
        refine wv_aload_n dX4_readUnit_40 rfl ?_
        refine wv_getI fX4_47 dX4_readUnit_41 rfl (by first | assumption | rfl) ?_
        refine wv_iconst (v := 2) dX4_readUnit_44 (by decide) ?_
        rw [k1]
        refine wv_icmp_eq (tgt := 58) dX4_readUnit_45 (by decide) (fun h45 => ?_) (fun h45 => ?_)
        · have h2 : s.1.1 = 2 := (nI_eq (b := 2) (by omega) (by omega)).mp h45
          refine wv_aload_n dX4_readUnit_58 rfl ?_
          refine wv_getR fX4_15 dX4_readUnit_59 rfl (by first | assumption | rfl) (by first | exact hR _ _ _ rfl | assumption) ?_
          refine wv_getR fX4_140 dX4_readUnit_62 rfl (by first | assumption | rfl) (by first | exact hR _ _ _ rfl | assumption) ?_
          refine wv_aload_n dX4_readUnit_65 rfl ?_
          refine wv_getI fX4_47 dX4_readUnit_66 rfl (by first | assumption | rfl) ?_
          refine wv_iconst (v := 2) dX4_readUnit_69 (by decide) ?_
          rw [k1]
          refine wv_icmp_ne (tgt := 80) dX4_readUnit_70 (by decide) (fun h70 => ?_) (fun h70 => ?_)
          · first
              | (have _ := h45; skip)
            have h2b : ¬ s.1.1 = 2 := fun q => h70 (by rw [q]; rfl)
            refine wv_sipush (v := 10000) dX4_readUnit_80 (by decide) ?_
            refine wv_iload_n dX4_readUnit_83 rfl ?_
            refine wv_iadd dX4_readUnit_84 ?_
            exact wv_le (by simp [wr_leq, wr_s1, wr_s2, wr_wide]) (fin _ (by rw [if_neg h2b]))
          · have h2b : s.1.1 = 2 := (nI_eq (b := 2) (by omega) (by omega)).mp h70
            refine wv_aload_n dX4_readUnit_73 rfl ?_
            refine wv_getI fX4_89 dX4_readUnit_74 rfl (by first | assumption | rfl) ?_
            refine wv_goto (tgt := 85) dX4_readUnit_77 (by decide) ?_
            rw [k4 h2b]
            exact wv_le (by simp [wr_leq, wr_s1, wr_s2, wr_wide]) (fin _ (by rw [if_pos h2b]))
        · have h2 : ¬ s.1.1 = 2 := fun q => h45 (by rw [q]; rfl)
          refine wv_iload_n dX4_readUnit_48 rfl ?_
          refine wv_iconst (v := (-1)) dX4_readUnit_49 (by decide) ?_
          refine wv_icmp_ne (tgt := 58) dX4_readUnit_50 (by decide) (fun h50 => ?_) (fun h50 => absurd h50 (fun q => hno ⟨h2, q⟩))
          refine wv_aload_n dX4_readUnit_58 rfl ?_
          refine wv_getR fX4_15 dX4_readUnit_59 rfl (by first | assumption | rfl) (by first | exact hR _ _ _ rfl | assumption) ?_
          refine wv_getR fX4_140 dX4_readUnit_62 rfl (by first | assumption | rfl) (by first | exact hR _ _ _ rfl | assumption) ?_
          refine wv_aload_n dX4_readUnit_65 rfl ?_
          refine wv_getI fX4_47 dX4_readUnit_66 rfl (by first | assumption | rfl) ?_
          refine wv_iconst (v := 2) dX4_readUnit_69 (by decide) ?_
          rw [k1]
          refine wv_icmp_ne (tgt := 80) dX4_readUnit_70 (by decide) (fun h70 => ?_) (fun h70 => ?_)
          · first
              | (have _ := h45; skip)
            have h2b : ¬ s.1.1 = 2 := fun q => h70 (by rw [q]; rfl)
            refine wv_sipush (v := 10000) dX4_readUnit_80 (by decide) ?_
            refine wv_iload_n dX4_readUnit_83 rfl ?_
            refine wv_iadd dX4_readUnit_84 ?_
            exact wv_le (by simp [wr_leq, wr_s1, wr_s2, wr_wide]) (fin _ (by rw [if_neg h2b]))
          · have h2b : s.1.1 = 2 := (nI_eq (b := 2) (by omega) (by omega)).mp h70
            refine wv_aload_n dX4_readUnit_73 rfl ?_
            refine wv_getI fX4_89 dX4_readUnit_74 rfl (by first | assumption | rfl) ?_
            refine wv_goto (tgt := 85) dX4_readUnit_77 (by decide) ?_
            rw [k4 h2b]
            exact wv_le (by simp [wr_leq, wr_s1, wr_s2, wr_wide]) (fin _ (by rw [if_pos h2b]))

