/-! the model: tries, tenths, looks -/
def mcF (I : wr_TI) (F : FS) : Prop := mcV I F.1 ∧ (∀ k, k < 3 → I 80 k = F.2.1 k) ∧ I 55 59 = F.2.2
def mZ (I : wr_TI) : Prop := ∀ s, s < 40 → I 82 s = 0
abbrev frS (I I' : wr_TI) : Prop := frM (fun a => a = 74 ∨ a = 75 ∨ a = 76 ∨ a = 77 ∨ a = 80) (fun k => k = 57 ∨ k = 58 ∨ k = 59) I I'
theorem frS_g {I I' : wr_TI} {g : RG} (h : frS I I') (hg : mgV I g) : mgV I' g := mgV_fr hg (fun k hk => h.2 k (by omega)) (fun a ha => h.1 a (by omega) (by omega))
theorem frS_z {I I' : wr_TI} (h : frS I I') (hz : mZ I) : mZ I' := fun s hs => by rw [h.1 82 (by omega) (by omega)]; exact hz s hs
theorem dr_of {I : wr_TI} {g : RG} (k40 : gN g ≤ 40) (hg : mgV I g) (hz : mZ I) : ∀ s, s < gN g → gD g s = (decide (I 60 s ≠ 0) || decide (I 82 s ≠ 0)) := fun s hs => by
  rw [hg.2.2.1 s (by omega), hz s (by omega)]
  cases gD g s <;> simp [bI]
theorem stp_A (g : RG) (dr : Nat → Bool) (S : SS) : stp g (rsA g dr S) S = stp g (wnt g dr S) S := by
  unfold stp
  refine Prod.ext ?_ (Prod.ext ?_ rfl)
  · funext s
    by_cases h : s < gN g <;> simp [h, rsA]
  · funext s
    by_cases h : s < gN g <;> simp [h, rsA]
theorem x_stepT {l : Launch} {I : wr_TI} {L : wr_TL} {R : wr_TR} (hR : wr_RC R) (g : RG) (F : FS) (ok : gOK g) (hg : mgV I g) (hF : mcF I F) (hz : mZ I) : wr_P l 4 mX8_step [.ref 55, .int 1] SH I L R (fun v s' I' L' R' => v = some (.int (nI (cn (rsE g F) (gN g)))) ∧ s' = SH ∧ L' = L ∧ R' = R ∧ mcF I' (stepF g F) ∧ frS I I') := by
  obtain ⟨k6, k40, -, -, kup, kre, kse, ksh, -⟩ := id ok
  refine wr_V.imp (x_step hR g F.1 ok hg hF.1 (gD g) (dr_of k40 hg hz) 1 (gSh g) (Or.inr ⟨rfl, rfl⟩)) (fun v s' I' L' R' h => ?_)
  obtain ⟨q1, q2, q3, q4, q5, q6, q7, q8, q9⟩ := h
  rw [show I 55 59 = F.2.2 from hF.2.2] at q1 q5 q6 q7
  rw [rz_E ksh.1] at q1 q5 q6
  rw [wz_W ksh.1] at q7
  refine ⟨q1, q2, q3, q4, ⟨q5, fun k hk => ?_, q7⟩, fun a b1 b2 => q8 a b1 (by omega) (by omega) (by omega) (by omega) (by omega), fun k hk => q9 k (by omega) (by omega)⟩
  rw [q6 k hk, hF.2.1 k hk]
  rfl
theorem x_stepD {l : Launch} {I : wr_TI} {L : wr_TL} {R : wr_TR} (hR : wr_RC R) (g : RG) (S : SS) (ok : gOK g) (hg : mgV I g) (hS : mcV I S) (dr : Nat → Bool) (hdr : ∀ s, s < gN g → dr s = (decide (I 60 s ≠ 0) || decide (I 82 s ≠ 0))) : wr_P l 4 mX8_step [.ref 55, .int 0] SH I L R (fun v s' I' L' R' => (∃ x, v = some (.int x)) ∧ s' = SH ∧ L' = L ∧ R' = R ∧ mcV I' (stp g (wnt g dr S) S) ∧ I' 55 59 = I 55 59 ∧ frS I I') := by
  refine wr_V.imp (x_step hR g S ok hg hS dr hdr 0 0 (Or.inl ⟨rfl, rfl⟩)) (fun v s' I' L' R' h => ?_)
  obtain ⟨q1, q2, q3, q4, q5, q6, q7, q8, q9⟩ := h
  rw [rz_0, stp_A] at q5
  refine ⟨⟨_, q1⟩, q2, q3, q4, q5, ?_, fun a b1 b2 => q8 a b1 (by omega) (by omega) (by omega) (by omega) (by omega), fun k hk => q9 k (by omega) (by omega)⟩
  rw [q7]
  simp [wz]
set_option maxHeartbeats 4000000 in
set_option maxRecDepth 100000 in
theorem x_wouldRise {l : Launch} {I : wr_TI} {L : wr_TL} {R : wr_TR} (hR : wr_RC R) (g : RG) (S : SS) (ok : gOK g) (hg : mgV I g) (hS : mcV I S) (hz : mZ I) : wr_P l 4 mX8_wouldRise [.ref 55] SH I L R (fun v s' I' L' R' => v = some (.int (aWould g S)) ∧ s' = SH ∧ L' = L ∧ R' = R ∧ frS I I' ∧ I' 75 = I 75 ∧ I' 76 = I 76 ∧ I' 80 = I 80 ∧ I' 55 = I 55) := by
  obtain ⟨k6, k40, -, -, kup, kre, kse, ksh, -⟩ := id ok
  have hn : I 55 28 = nI (gN g) := hg.1
  have hup : upn g S = cn (fun s => isU (I 75 s)) (gN g) := cn_congr fun s hs => by rw [hS.1 s (by omega)]
  have lp : ∀ (k i : Nat) (J : wr_TI), i + k = gN g → (∀ a, a ≠ 74 → J a = I a) → wr_V l 4 mX8_wouldRise 9 [some (.ref 55), some (.int (nI (upn g S))), some (.int (nI (cn (wnt g (gD g) S) i))), some (.int (nI i))] [] SH J L R 0 0 (fun v s' I' L' R' => v = some (.int (nI (cn (wnt g (gD g) S) (gN g)))) ∧ s' = SH ∧ L' = L ∧ R' = R ∧ ∀ a, a ≠ 74 → I' a = I a) := by
    intro k
    induction k with
    | zero =>
      intro i J hi hJ
      obtain rfl : i = gN g := by omega
      refine wv_iload_n dX8_wouldRise_9 rfl ?_
      refine wv_aload_n dX8_wouldRise_10 rfl ?_
      refine wv_getI fX8_151 dX8_wouldRise_11 rfl (by first | assumption | rfl) ?_
      refine wv_icmp_ge (tgt := 40) dX8_wouldRise_14 (by decide) (fun h14 => ?_) (fun h14 => absurd (by rw [hJ 55 (by omega), hn]; exact Int32.le_refl _) h14)
      refine wv_iload_n dX8_wouldRise_40 rfl ?_
      refine wv_iret rfl dX8_wouldRise_41 ?_
      exact ⟨rfl, rfl, rfl, rfl, hJ⟩
    | succ k ih =>
      intro i J hi hJ
      have hgJ : mgV J g := mgV_fr hg (fun k hk => by rw [hJ 55 (by omega)]) (fun a ha => hJ a (by omega))
      have hSJ : mcV J S := mcV_fr hS (hJ _ (by omega)) (hJ _ (by omega)) (by rw [hJ 55 (by omega)]) (by rw [hJ 55 (by omega)])
      refine wv_iload_n dX8_wouldRise_9 rfl ?_
      refine wv_aload_n dX8_wouldRise_10 rfl ?_
      refine wv_getI fX8_151 dX8_wouldRise_11 rfl (by first | assumption | rfl) ?_
      refine wv_icmp_ge (tgt := 40) dX8_wouldRise_14 (by decide) (fun h14 => absurd h14 (by rw [hJ 55 (by omega), hn]; exact nI_ge (by omega) (by omega))) (fun h14 => ?_)
      refine wv_iload_n dX8_wouldRise_17 rfl ?_
      refine wv_aload_n dX8_wouldRise_18 rfl ?_
      refine wv_iload_n dX8_wouldRise_19 rfl ?_
      refine wv_iload_n dX8_wouldRise_20 rfl ?_
      refine wv_v2 oX8_wants kX8_417 dX8_wouldRise_21 (by omega) (by first | assumption | rfl) ⟨rfl, by decide⟩ (Nat.le_of_ble_eq_true rfl) (Nat.le_of_ble_eq_true rfl) (x_wants hR g S ok hgJ hSJ i (by omega) (gD g) (by rw [hJ 60 (by omega), hJ 82 (by omega)]; exact dr_of k40 hg hz i (by omega))) (fun v9 s9 J1 L9 R9 h9 => ?_)
      obtain ⟨rfl, rfl, rfl, rfl, h9⟩ := h9
      refine wv_if_eq (tgt := 31) dX8_wouldRise_24 (by decide) (fun h24 => ?_) (fun h24 => ?_)
      · rw [if10] at h24
        have e : nI (cn (wnt g (gD g) S) i) + 0 = nI (cn (wnt g (gD g) S) (i + 1)) := by simp [cn, h24]
        refine wv_iconst (v := 0) dX8_wouldRise_31 (by decide) ?_
        refine wv_iadd dX8_wouldRise_32 ?_
        rw [e]
        refine wv_istore_k (i := 2) dX8_wouldRise_33 rfl (by decide) ?_
        refine wv_iinc (v := nI (i + 1)) dX8_wouldRise_34 rfl (nI_1 (i)) (by decide) ?_
        refine wv_goto (tgt := 9) dX8_wouldRise_37 (by decide) ?_
        exact wv_le (by simp [wr_leq, wr_s1, wr_s2, wr_wide]) (ih (i + 1) J1 (by omega) (fun a ha => (h9 a ha).trans (hJ a ha)))
      · rw [if10, Decidable.not_not] at h24
        have e : nI (cn (wnt g (gD g) S) i) + 1 = nI (cn (wnt g (gD g) S) (i + 1)) := by simp [cn, h24]; exact nI_1 _
        refine wv_iconst (v := 1) dX8_wouldRise_27 (by decide) ?_
        refine wv_goto (tgt := 32) dX8_wouldRise_28 (by decide) ?_
        refine wv_iadd dX8_wouldRise_32 ?_
        rw [e]
        refine wv_istore_k (i := 2) dX8_wouldRise_33 rfl (by decide) ?_
        refine wv_iinc (v := nI (i + 1)) dX8_wouldRise_34 rfl (nI_1 (i)) (by decide) ?_
        refine wv_goto (tgt := 9) dX8_wouldRise_37 (by decide) ?_
        exact wv_le (by simp [wr_leq, wr_s1, wr_s2, wr_wide]) (ih (i + 1) J1 (by omega) (fun a ha => (h9 a ha).trans (hJ a ha)))
  refine wv_pad 3 ?_
  show wr_V l 4 mX8_wouldRise 0 [some (.ref 55), none, none, none] [] SH I L R 0 0 _
  refine wv_aload_n dX8_wouldRise_0 rfl ?_
  refine wv_v0e oX8_ups kX8_414 dX8_wouldRise_1 (by omega) (by first | assumption | rfl) ⟨rfl, by decide⟩ (Nat.le_of_ble_eq_true rfl) (Nat.le_of_ble_eq_true rfl) (x_ups hR (gN g) hn k40) ?_
  rw [← hup]
  refine wv_istore_k (i := 1) dX8_wouldRise_4 rfl (by decide) ?_
  refine wv_iconst (v := nI (cn (wnt g (gD g) S) 0)) dX8_wouldRise_5 rfl ?_
  refine wv_istore_k (i := 2) dX8_wouldRise_6 rfl (by decide) ?_
  refine wv_iconst (v := nI 0) dX8_wouldRise_7 rfl ?_
  refine wv_istore_k (i := 3) dX8_wouldRise_8 rfl (by decide) ?_
  refine wr_V.imp (wv_le (by simp [wr_leq, wr_s1, wr_s2, wr_wide]) (lp (gN g) 0 I (by omega) (fun _ _ => rfl))) (fun v s' I' L' R' h => ?_)
  obtain ⟨q1, q2, q3, q4, q5⟩ := h
  exact ⟨q1, q2, q3, q4, ⟨fun a b1 b2 => q5 a (by omega), fun k _ => by rw [q5 55 (by omega)]⟩, q5 _ (by omega), q5 _ (by omega), q5 _ (by omega), q5 _ (by omega)⟩

set_option maxHeartbeats 4000000 in
set_option maxRecDepth 100000 in
theorem xW_would {l : Launch} {I : wr_TI} {L : wr_TL} {R : wr_TR} (hR : wr_RC R) (g : RG) (S : SS) (ok : gOK g) (hg : mgV I g) (hS : mcV I S) (hz : mZ I) : wr_P l 5 mX8_would [.ref 55] SH I L R (fun v s' I' L' R' => v = some (.int (aWould g S)) ∧ s' = SH ∧ L' = L ∧ R' = R ∧ frS I I' ∧ I' 75 = I 75 ∧ I' 76 = I 76 ∧ I' 80 = I 80 ∧ I' 55 = I 55) := by
  refine wv_pad 0 ?_
  show wr_V l 5 mX8_would 0 [some (.ref 55)] [] SH I L R 0 0 _
  refine wv_aload_n dX8_would_0 rfl ?_
  refine wv_v0 oX8_wouldRise kX8_438 dX8_would_1 (by omega) (by first | assumption | rfl) ⟨rfl, by decide⟩ (Nat.le_of_ble_eq_true rfl) (Nat.le_of_ble_eq_true rfl) (x_wouldRise hR g S ok hg hS hz) (fun v9 s9 J1 L9 R9 h9 => ?_)
  obtain ⟨rfl, rfl, rfl, rfl, h9⟩ := h9
  refine wv_iret rfl dX8_would_4 ?_
  exact ⟨rfl, rfl, rfl, rfl, h9⟩

def trI (I : wr_TI) (s : Nat) : wr_TI := if I 75 s = 0 then wr_uI (wr_uI I 75 s 1) 76 s (I 76 s + 1) else I
set_option maxHeartbeats 4000000 in
set_option maxRecDepth 100000 in
theorem x_tries {l : Launch} {I : wr_TI} {L : wr_TL} {R : wr_TR} (hR : wr_RC R) (s : Nat) (hs : s < 40) : wr_E l 0 mX8_tries [.ref 55, .int (nI s)] SH I L R (some (.int (if I 75 s = 0 then 1 else 0))) (trI I s) L R := by
  refine wv_pad 0 ?_
  show wr_V l 0 mX8_tries 0 [some (.ref 55), some (.int (nI s))] [] SH I L R 0 0 _
  refine wv_aload_n dX8_tries_0 rfl ?_
  refine wv_getR fX8_72 dX8_tries_1 rfl (by first | assumption | rfl) (by first | exact hR _ _ _ rfl | assumption) ?_
  refine wv_iload_n dX8_tries_4 rfl ?_
  refine wv_ialdN dX8_tries_5 (by first | assumption | rfl) (by omega) (by decide) ?_
  refine wv_if_eq (tgt := 11) dX8_tries_6 (by decide) (fun h6 => ?_) (fun h6 => ?_)
  · refine wv_aload_n dX8_tries_11 rfl ?_
    refine wv_getR fX8_72 dX8_tries_12 rfl (by first | assumption | rfl) (by first | exact hR _ _ _ rfl | assumption) ?_
    refine wv_iload_n dX8_tries_15 rfl ?_
    refine wv_iconst (v := 1) dX8_tries_16 (by decide) ?_
    refine wv_iastN dX8_tries_17 (by first | assumption | rfl) (by omega) (by decide) ?_
    refine wv_aload_n dX8_tries_18 rfl ?_
    refine wv_getR fX8_75 dX8_tries_19 rfl (by first | assumption | rfl) (by first | exact hR _ _ _ rfl | assumption) ?_
    refine wv_iload_n dX8_tries_22 rfl ?_
    refine wv_dup2 dX8_tries_23 rfl rfl ?_
    refine wv_ialdN dX8_tries_24 (by first | assumption | rfl) (by omega) (by decide) ?_
    rw [show wr_uI I 75 s 1 76 s = I 76 s from by simp [wr_uI]]
    refine wv_iconst (v := 1) dX8_tries_25 (by decide) ?_
    refine wv_iadd dX8_tries_26 ?_
    refine wv_iastN dX8_tries_27 (by first | assumption | rfl) (by omega) (by decide) ?_
    refine wv_iconst (v := 1) dX8_tries_28 (by decide) ?_
    refine wv_zret rfl rfl dX8_tries_29 ?_
    unfold trI
    first | (rw [if_pos h6, if_pos h6]; exact ⟨rfl, rfl, rfl, rfl, rfl⟩) | (rw [if_neg h6, if_neg h6]; exact ⟨rfl, rfl, rfl, rfl, rfl⟩)
  · refine wv_iconst (v := 0) dX8_tries_9 (by decide) ?_
    refine wv_zret rfl rfl dX8_tries_10 ?_
    unfold trI
    first | (rw [if_pos h6, if_pos h6]; exact ⟨rfl, rfl, rfl, rfl, rfl⟩) | (rw [if_neg h6, if_neg h6]; exact ⟨rfl, rfl, rfl, rfl, rfl⟩)

set_option maxHeartbeats 4000000 in
set_option maxRecDepth 100000 in
theorem xW_tryNow {l : Launch} {I : wr_TI} {L : wr_TL} {R : wr_TR} (hR : wr_RC R) (g : RG) (S : SS) (ok : gOK g) (hg : mgV I g) (hS : mcV I S) : wr_P l 1 mX8_tryNow [.ref 55] SH I L R (fun v s' I' L' R' => v = some (.int (aTry g S)) ∧ s' = SH ∧ L' = L ∧ R' = R ∧ mcV I' (tryS (gF g) S) ∧ frS I I' ∧ I' 80 = I 80 ∧ I' 55 59 = I 55 59) := by
  obtain ⟨k6, k40, kfa, -, kup, kre, kse, ksh, -⟩ := id ok
  have hn : I 55 28 = nI (gN g) := hg.1
  have lp : ∀ (k i : Nat) (J : wr_TI), i + k = gN g → (∀ a, a ≠ 75 → a ≠ 76 → J a = I a) → (∀ b, b < 40 → J 75 b = if b < i ∧ (tryP (gF g) S) b = true then 1 else S.1 b) → (∀ b, b < 40 → J 76 b = if b < i ∧ (tryP (gF g) S) b = true then S.2.1 b + 1 else S.2.1 b) → wr_V l 1 mX8_tryNow 4 [some (.ref 55), some (.int (nI (cn (tryP (gF g) S) i))), some (.int (nI i))] [] SH J L R 0 0 (fun v s' I' L' R' => v = some (.int (aTry g S)) ∧ s' = SH ∧ L' = L ∧ R' = R ∧ mcV I' (tryS (gF g) S) ∧ frS I I' ∧ I' 80 = I 80 ∧ I' 55 59 = I 55 59) := by
    intro k
    induction k with
    | zero =>
      intro i J hi hJ h1 h2
      obtain rfl : i = gN g := by omega
      have hx : ∀ b, (b < gN g ∧ (tryP (gF g) S) b = true) ↔ (tryP (gF g) S) b = true := fun b => ⟨fun q => q.2, fun q => ⟨Nat.lt_of_not_le fun z => by simp [tryP, (kfa b z).2.2] at q, q⟩⟩
      refine wv_iload_n dX8_tryNow_4 rfl ?_
      refine wv_aload_n dX8_tryNow_5 rfl ?_
      refine wv_getI fX8_151 dX8_tryNow_6 rfl (by first | assumption | rfl) ?_
      refine wv_icmp_ge (tgt := 43) dX8_tryNow_9 (by decide) (fun h9 => ?_) (fun h9 => absurd (by rw [hJ 55 (by omega) (by omega), hn]; exact Int32.le_refl _) h9)
      refine wv_aload_n dX8_tryNow_43 rfl ?_
      refine wv_dup dX8_tryNow_44 rfl ?_
      refine wv_getI fX8_384 dX8_tryNow_45 rfl (by first | assumption | rfl) ?_
      refine wv_iconst (v := 1) dX8_tryNow_48 (by decide) ?_
      refine wv_iadd dX8_tryNow_49 ?_
      refine wv_putI fX8_384 dX8_tryNow_50 rfl rfl rfl rfl (by first | assumption | rfl) ?_
      refine wv_iload_n dX8_tryNow_53 rfl ?_
      refine wv_iret rfl dX8_tryNow_54 ?_
      refine ⟨rfl, rfl, rfl, rfl, ⟨fun s hs => ?_, fun s hs => ?_, ?_, ?_⟩, ⟨fun a b1 b2 => ?_, fun k hk => ?_⟩, ?_, ?_⟩
      · rw [wr_uI_ne (by omega), h1 s hs]
        simp only [tryS]
        by_cases hp : (tryP (gF g) S) s = true
        · rw [if_pos ((hx s).mpr hp), if_pos hp]
        · rw [if_neg (fun q => hp q.2), if_neg hp]
      · rw [wr_uI_ne (by omega), h2 s hs]
        simp only [tryS]
        by_cases hp : (tryP (gF g) S) s = true
        · rw [if_pos ((hx s).mpr hp), if_pos hp]
        · rw [if_neg (fun q => hp q.2), if_neg hp]
      · have : J 55 57 = S.2.2.1 := by rw [hJ 55 (by omega) (by omega)]; exact hS.2.2.1
        simp [wr_uI, tryS, this]
      · have : J 55 58 = S.2.2.2 := by rw [hJ 55 (by omega) (by omega)]; exact hS.2.2.2
        simp [wr_uI, tryS, this]
      · rw [wr_uI_ne b1]; exact hJ a (by omega) (by omega)
      · have : ¬ k = 58 := by omega
        simp only [wr_uI, this, and_false, if_false]
        rw [hJ 55 (by omega) (by omega)]
      · rw [wr_uI_ne (by omega)]; exact hJ 80 (by omega) (by omega)
      · have e : wr_uI J 55 58 (J 55 58 + 1) 55 59 = J 55 59 := by simp [wr_uI]
        rw [e, hJ 55 (by omega) (by omega)]
    | succ k ih =>
      intro i J hi hJ h1 h2
      have eF : J 62 i = bI (gF g i) := by rw [hJ 62 (by omega) (by omega)]; exact hg.2.2.2.1 i (by omega)
      have eS : J 75 i = S.1 i := by rw [h1 i (by omega)]; simp
      refine wv_iload_n dX8_tryNow_4 rfl ?_
      refine wv_aload_n dX8_tryNow_5 rfl ?_
      refine wv_getI fX8_151 dX8_tryNow_6 rfl (by first | assumption | rfl) ?_
      refine wv_icmp_ge (tgt := 43) dX8_tryNow_9 (by decide) (fun h9 => absurd h9 (by rw [hJ 55 (by omega) (by omega), hn]; exact nI_ge (by omega) (by omega))) (fun h9 => ?_)
      refine wv_iload_n dX8_tryNow_12 rfl ?_
      refine wv_aload_n dX8_tryNow_13 rfl ?_
      refine wv_getR fX8_33 dX8_tryNow_14 rfl (by first | assumption | rfl) (by first | exact hR _ _ _ rfl | assumption) ?_
      refine wv_iload_n dX8_tryNow_17 rfl ?_
      refine wv_zaldN dX8_tryNow_18 (by first | assumption | rfl) (by omega) (by decide) ?_
      refine wv_if_eq (tgt := 34) dX8_tryNow_19 (by decide) (fun h19 => ?_) (fun h19 => ?_)
      · rw [eF, bI_0] at h19
        have hp : (tryP (gF g) S) i = false := by simp [tryP, h19]
        have e : nI (cn (tryP (gF g) S) i) + 0 = nI (cn (tryP (gF g) S) (i + 1)) := by simp [cn, hp]
        refine wv_iconst (v := 0) dX8_tryNow_34 (by decide) ?_
        refine wv_iadd dX8_tryNow_35 ?_
        rw [e]
        refine wv_istore_k (i := 1) dX8_tryNow_36 rfl (by decide) ?_
        refine wv_iinc (v := nI (i + 1)) dX8_tryNow_37 rfl (nI_1 (i)) (by decide) ?_
        refine wv_goto (tgt := 4) dX8_tryNow_40 (by decide) ?_
        have hlt : ∀ b, b ≠ i → (b < i + 1 ↔ b < i) := fun b hb => by omega
        first
          | (have _ := hf
             rw [eJ]
             refine wv_le (by simp [wr_leq, wr_s1, wr_s2, wr_wide]) (ih (i + 1) _ (by omega) (fun a b1 b2 => ?_) (fun b hb => ?_) (fun b hb => ?_))
             · first
                 | (rw [wr_uI_ne b2, wr_uI_ne b1]; exact hJ a b1 b2)
                 | exact hJ a b1 b2
             · by_cases hbi : b = i
               · subst hbi; first | (simp [wr_uI, hp]; done) | (simp [hp]; exact eS)
               · simp only [hlt b hbi]; first | (simp only [wr_uI, hbi, and_false, if_false]; exact h1 b hb) | exact h1 b hb
             · have e7 := h2 i (by omega)
               simp at e7
               by_cases hbi : b = i
               · subst hbi; first | (simp [wr_uI, hp, e7]; done) | (simp [hp]; exact e7)
               · simp only [hlt b hbi]; first | (simp only [wr_uI, hbi, and_false, if_false]; exact h2 b hb) | exact h2 b hb)
          | (refine wv_le (by simp [wr_leq, wr_s1, wr_s2, wr_wide]) (ih (i + 1) J (by omega) hJ (fun b hb => ?_) (fun b hb => ?_))
             · by_cases hbi : b = i
               · subst hbi; rw [h1 b hb]; simp [hp]
               · simp only [hlt b hbi]; exact h1 b hb
             · by_cases hbi : b = i
               · subst hbi; rw [h2 b hb]; simp [hp]
               · simp only [hlt b hbi]; exact h2 b hb)
      · rw [eF, bI_0] at h19
        have hf : gF g i = true := by simpa using h19
        refine wv_aload_n dX8_tryNow_22 rfl ?_
        refine wv_iload_n dX8_tryNow_23 rfl ?_
        refine wv_v1e oX8_tries kX8_427 dX8_tryNow_24 (by omega) (by first | assumption | rfl) ⟨rfl, by decide⟩ (Nat.le_of_ble_eq_true rfl) (Nat.le_of_ble_eq_true rfl) (x_tries hR i (by omega)) ?_
        refine wv_if_eq (tgt := 34) dX8_tryNow_27 (by decide) (fun h27 => ?_) (fun h27 => ?_)
        · rw [if10, eS] at h27
          have hp : (tryP (gF g) S) i = false := by simp [tryP, h27]
          have eJ : trI J i = J := by unfold trI; rw [if_neg (by rw [eS]; exact h27)]
          have e : nI (cn (tryP (gF g) S) i) + 0 = nI (cn (tryP (gF g) S) (i + 1)) := by simp [cn, hp]
          refine wv_iconst (v := 0) dX8_tryNow_34 (by decide) ?_
          refine wv_iadd dX8_tryNow_35 ?_
          rw [e]
          refine wv_istore_k (i := 1) dX8_tryNow_36 rfl (by decide) ?_
          refine wv_iinc (v := nI (i + 1)) dX8_tryNow_37 rfl (nI_1 (i)) (by decide) ?_
          refine wv_goto (tgt := 4) dX8_tryNow_40 (by decide) ?_
          have hlt : ∀ b, b ≠ i → (b < i + 1 ↔ b < i) := fun b hb => by omega
          first
            | (have _ := hf
               rw [eJ]
               refine wv_le (by simp [wr_leq, wr_s1, wr_s2, wr_wide]) (ih (i + 1) _ (by omega) (fun a b1 b2 => ?_) (fun b hb => ?_) (fun b hb => ?_))
               · first
                   | (rw [wr_uI_ne b2, wr_uI_ne b1]; exact hJ a b1 b2)
                   | exact hJ a b1 b2
               · by_cases hbi : b = i
                 · subst hbi; first | (simp [wr_uI, hp]; done) | (simp [hp]; exact eS)
                 · simp only [hlt b hbi]; first | (simp only [wr_uI, hbi, and_false, if_false]; exact h1 b hb) | exact h1 b hb
               · have e7 := h2 i (by omega)
                 simp at e7
                 by_cases hbi : b = i
                 · subst hbi; first | (simp [wr_uI, hp, e7]; done) | (simp [hp]; exact e7)
                 · simp only [hlt b hbi]; first | (simp only [wr_uI, hbi, and_false, if_false]; exact h2 b hb) | exact h2 b hb)
            | (refine wv_le (by simp [wr_leq, wr_s1, wr_s2, wr_wide]) (ih (i + 1) J (by omega) hJ (fun b hb => ?_) (fun b hb => ?_))
               · by_cases hbi : b = i
                 · subst hbi; rw [h1 b hb]; simp [hp]
                 · simp only [hlt b hbi]; exact h1 b hb
               · by_cases hbi : b = i
                 · subst hbi; rw [h2 b hb]; simp [hp]
                 · simp only [hlt b hbi]; exact h2 b hb)
        · rw [if10, Decidable.not_not, eS] at h27
          have hp : (tryP (gF g) S) i = true := by simp [tryP, hf, h27]
          have eJ : trI J i = wr_uI (wr_uI J 75 i 1) 76 i (J 76 i + 1) := by unfold trI; rw [if_pos (by rw [eS]; exact h27)]
          have e : nI (cn (tryP (gF g) S) i) + 1 = nI (cn (tryP (gF g) S) (i + 1)) := by simp [cn, hp]; exact nI_1 _
          refine wv_iconst (v := 1) dX8_tryNow_30 (by decide) ?_
          refine wv_goto (tgt := 35) dX8_tryNow_31 (by decide) ?_
          refine wv_iadd dX8_tryNow_35 ?_
          rw [e]
          refine wv_istore_k (i := 1) dX8_tryNow_36 rfl (by decide) ?_
          refine wv_iinc (v := nI (i + 1)) dX8_tryNow_37 rfl (nI_1 (i)) (by decide) ?_
          refine wv_goto (tgt := 4) dX8_tryNow_40 (by decide) ?_
          have hlt : ∀ b, b ≠ i → (b < i + 1 ↔ b < i) := fun b hb => by omega
          first
            | (have _ := hf
               rw [eJ]
               refine wv_le (by simp [wr_leq, wr_s1, wr_s2, wr_wide]) (ih (i + 1) _ (by omega) (fun a b1 b2 => ?_) (fun b hb => ?_) (fun b hb => ?_))
               · first
                   | (rw [wr_uI_ne b2, wr_uI_ne b1]; exact hJ a b1 b2)
                   | exact hJ a b1 b2
               · by_cases hbi : b = i
                 · subst hbi; first | (simp [wr_uI, hp]; done) | (simp [hp]; exact eS)
                 · simp only [hlt b hbi]; first | (simp only [wr_uI, hbi, and_false, if_false]; exact h1 b hb) | exact h1 b hb
               · have e7 := h2 i (by omega)
                 simp at e7
                 by_cases hbi : b = i
                 · subst hbi; first | (simp [wr_uI, hp, e7]; done) | (simp [hp]; exact e7)
                 · simp only [hlt b hbi]; first | (simp only [wr_uI, hbi, and_false, if_false]; exact h2 b hb) | exact h2 b hb)
            | (refine wv_le (by simp [wr_leq, wr_s1, wr_s2, wr_wide]) (ih (i + 1) J (by omega) hJ (fun b hb => ?_) (fun b hb => ?_))
               · by_cases hbi : b = i
                 · subst hbi; rw [h1 b hb]; simp [hp]
                 · simp only [hlt b hbi]; exact h1 b hb
               · by_cases hbi : b = i
                 · subst hbi; rw [h2 b hb]; simp [hp]
                 · simp only [hlt b hbi]; exact h2 b hb)
  refine wv_pad 2 ?_
  show wr_V l 1 mX8_tryNow 0 [some (.ref 55), none, none] [] SH I L R 0 0 _
  refine wv_iconst (v := nI (cn (tryP (gF g) S) 0)) dX8_tryNow_0 rfl ?_
  refine wv_istore_k (i := 1) dX8_tryNow_1 rfl (by decide) ?_
  refine wv_iconst (v := nI 0) dX8_tryNow_2 rfl ?_
  refine wv_istore_k (i := 2) dX8_tryNow_3 rfl (by decide) ?_
  exact wv_le (by simp [wr_leq, wr_s1, wr_s2, wr_wide]) (lp (gN g) 0 I (by omega) (fun _ _ _ => rfl) (fun b hb => by simp; exact hS.1 b hb) (fun b hb => by simp; exact hS.2.1 b hb))

