/-! the model: its ring, its crowd; who would rise -/
def gOK (g : RG) : Prop := 6 ≤ gN g ∧ gN g ≤ 40 ∧ (∀ s, gN g ≤ s → gG g s = false ∧ gD g s = false ∧ gF g s = false) ∧ g.2.1.2.2.2 ≤ 6 ∧ (1 ≤ gUp g ∧ gUp g ≤ 9) ∧ (0 ≤ gRe g ∧ gRe g ≤ 20) ∧ (1 ≤ gSe g ∧ gSe g ≤ 9) ∧ (0 ≤ gSh g ∧ gSh g ≤ 9) ∧ gLn g ≤ 260 ∧ wfl (gC g) (gLn g) 0 0
theorem rgV_ok {I : wr_TI} {L : wr_TL} {t : Nat} {g : RG} (h : rgV I L t g) : gOK g := by
  obtain ⟨h1, h2, h3, h4, h5, h6, h7, h8, h9, h10, h11, h12, h13, h14, h15, h16, h17, h18, h19, h20, h21, h22, h23, h24⟩ := h
  exact ⟨h2, h3, h7, h12, h14, h16, h18, h20, h23, h24⟩
/-- a part of a law, in the model's numbers -/
def whN (q : Nat) : Nat := if q < 10000 then 0 else if q < 20000 then q - 9999 else if q = 20000 then 22 else if q = 20001 then 21 else if q = 20002 then 20 else if q = 20003 then 24 else if q = 20004 then 25 else if q = 20005 then 23 else q - 19980
def mlR (c : Nat → Int32) (len : Nat) (W N : Nat → Int32) : Prop := ∀ k, k < len → ∀ q, c k = nI q → q ≤ 20008 → W k = nI (whN q) ∧ (q < 10000 → N k = nI q)
/-- the model's ring, the model's crowd -/
def mgV (I : wr_TI) (g : RG) : Prop := I 55 28 = nI (gN g) ∧ (∀ s, s < 40 → I 61 s = bI (gG g s)) ∧ (∀ s, s < 40 → I 60 s = bI (gD g s)) ∧ (∀ s, s < 40 → I 62 s = bI (gF g s)) ∧
  (∀ k, k < g.2.1.2.2.2 → I 66 k = g.2.1.1 k ∧ I 67 k = g.2.1.2.1 k ∧ I 68 k = g.2.1.2.2.1 k) ∧ I 55 29 = nI g.2.1.2.2.2 ∧
  I 55 30 = gUp g ∧ I 55 31 = gRe g ∧ I 55 32 = nI (gSe g) ∧ I 55 33 = gSh g ∧ I 55 44 = nI (gLn g) ∧ mlR (gC g) (gLn g) (I 71) (I 72)
def mcV (I : wr_TI) (S : SS) : Prop := (∀ s, s < 40 → I 75 s = S.1 s) ∧ (∀ s, s < 40 → I 76 s = S.2.1 s) ∧ I 55 57 = S.2.2.1 ∧ I 55 58 = S.2.2.2
theorem mgV_fr {I I' : wr_TI} {g : RG} (h : mgV I g) (h1 : ∀ k, (k = 28 ∨ k = 29 ∨ k = 30 ∨ k = 31 ∨ k = 32 ∨ k = 33 ∨ k = 44) → I' 55 k = I 55 k) (h2 : ∀ a, (a = 60 ∨ a = 61 ∨ a = 62 ∨ a = 66 ∨ a = 67 ∨ a = 68 ∨ a = 71 ∨ a = 72) → I' a = I a) : mgV I' g := by
  unfold mgV at h ⊢
  rw [h1 28 (by simp), h1 29 (by simp), h1 30 (by simp), h1 31 (by simp), h1 32 (by simp), h1 33 (by simp), h1 44 (by simp), h2 60 (by simp), h2 61 (by simp), h2 62 (by simp), h2 66 (by simp), h2 67 (by simp), h2 68 (by simp), h2 71 (by simp), h2 72 (by simp)]
  exact h
theorem mcV_fr {I I' : wr_TI} {S : SS} (h : mcV I S) (h1 : I' 75 = I 75) (h2 : I' 76 = I 76) (h3 : I' 55 57 = I 55 57) (h4 : I' 55 58 = I 55 58) : mcV I' S := by
  unfold mcV at h ⊢
  rw [h1, h2, h3, h4]
  exact h
def wk (p a b : Int32) : Int32 :=
  if p = 20 then (if a ≠ 0 ∨ b ≠ 0 then 1 else 0)
  else if p = 21 then (if a ≠ 0 ∧ b ≠ 0 then 1 else 0)
  else if p = 23 then (if a = b then 1 else 0)
  else if p = 24 then (if a < b then 1 else 0)
  else if p = 25 then (if b < a then 1 else 0)
  else if p = 26 then a + b
  else if p = 27 then a - b
  else a * b
theorem wk_jn {q : Nat} (h1 : 20001 ≤ q) (h2 : q ≤ 20008) (a b : Int32) : wk (nI (whN q)) a b = jn (nI q) a b := by
  have h : q = 20001 ∨ q = 20002 ∨ q = 20003 ∨ q = 20004 ∨ q = 20005 ∨ q = 20006 ∨ q = 20007 ∨ q = 20008 := by omega
  rcases h with rfl | rfl | rfl | rfl | rfl | rfl | rfl | rfl <;> simp [wk, jn, whN, nI]
def nz (x : Int32) : Int32 := if x = 0 then 0 else 1
set_option maxHeartbeats 4000000 in
set_option maxRecDepth 100000 in
theorem x_worked {l : Launch} {I : wr_TI} {L : wr_TL} {R : wr_TR} (p a b : Int32) : wr_E l 0 mX8_worked [.int p, .int a, .int b] SH I L R (some (.int (wk p a b))) I L R := by
  refine wv_pad 0 ?_
  show wr_V l 0 mX8_worked 0 [some (.int p), some (.int a), some (.int b)] [] SH I L R 0 0 _
  refine wv_iload_n dX8_worked_0 rfl ?_
  by_cases hv1_20 : p = 20
  · subst hv1_20
    refine wv_tableIn (off := 47) (tgt := 48) dX8_worked_1 (by decide) (by decide) (by decide) (by decide) ?_
    refine wv_iload_n dX8_worked_48 rfl ?_
    refine wv_if_ne (tgt := 56) dX8_worked_49 (by decide) (fun h49 => ?_) (fun h49 => ?_)
    · refine wv_iconst (v := 1) dX8_worked_56 (by decide) ?_
      refine wv_goto (tgt := 61) dX8_worked_57 (by decide) ?_
      refine wv_iret rfl dX8_worked_61 ?_
      refine ⟨?_, rfl, rfl, rfl, rfl⟩
      simp [wk, *]
    · refine wv_iload_n dX8_worked_52 rfl ?_
      refine wv_if_eq (tgt := 60) dX8_worked_53 (by decide) (fun h53 => ?_) (fun h53 => ?_)
      · refine wv_iconst (v := 0) dX8_worked_60 (by decide) ?_
        refine wv_iret rfl dX8_worked_61 ?_
        refine ⟨?_, rfl, rfl, rfl, rfl⟩
        simp [wk, *]
      · refine wv_iconst (v := 1) dX8_worked_56 (by decide) ?_
        refine wv_goto (tgt := 61) dX8_worked_57 (by decide) ?_
        refine wv_iret rfl dX8_worked_61 ?_
        refine ⟨?_, rfl, rfl, rfl, rfl⟩
        simp [wk, *]
  by_cases hv1_21 : p = 21
  · subst hv1_21
    refine wv_tableIn (off := 61) (tgt := 62) dX8_worked_1 (by decide) (by decide) (by decide) (by decide) ?_
    refine wv_iload_n dX8_worked_62 rfl ?_
    refine wv_if_eq (tgt := 74) dX8_worked_63 (by decide) (fun h63 => ?_) (fun h63 => ?_)
    · refine wv_iconst (v := 0) dX8_worked_74 (by decide) ?_
      refine wv_iret rfl dX8_worked_75 ?_
      refine ⟨?_, rfl, rfl, rfl, rfl⟩
      simp [wk, *]
    · refine wv_iload_n dX8_worked_66 rfl ?_
      refine wv_if_eq (tgt := 74) dX8_worked_67 (by decide) (fun h67 => ?_) (fun h67 => ?_)
      · refine wv_iconst (v := 0) dX8_worked_74 (by decide) ?_
        refine wv_iret rfl dX8_worked_75 ?_
        refine ⟨?_, rfl, rfl, rfl, rfl⟩
        simp [wk, *]
      · refine wv_iconst (v := 1) dX8_worked_70 (by decide) ?_
        refine wv_goto (tgt := 75) dX8_worked_71 (by decide) ?_
        refine wv_iret rfl dX8_worked_75 ?_
        refine ⟨?_, rfl, rfl, rfl, rfl⟩
        simp [wk, *]
  by_cases hv1_22 : p = 22
  · subst hv1_22
    refine wv_tableIn (off := 116) (tgt := 117) dX8_worked_1 (by decide) (by decide) (by decide) (by decide) ?_
    refine wv_iload_n dX8_worked_117 rfl ?_
    refine wv_iload_n dX8_worked_118 rfl ?_
    refine wv_imul dX8_worked_119 ?_
    refine wv_iret rfl dX8_worked_120 ?_
    refine ⟨?_, rfl, rfl, rfl, rfl⟩
    simp [wk, *]
  by_cases hv1_23 : p = 23
  · subst hv1_23
    refine wv_tableIn (off := 75) (tgt := 76) dX8_worked_1 (by decide) (by decide) (by decide) (by decide) ?_
    refine wv_iload_n dX8_worked_76 rfl ?_
    refine wv_iload_n dX8_worked_77 rfl ?_
    refine wv_icmp_ne (tgt := 85) dX8_worked_78 (by decide) (fun h78 => ?_) (fun h78 => ?_)
    · refine wv_iconst (v := 0) dX8_worked_85 (by decide) ?_
      refine wv_iret rfl dX8_worked_86 ?_
      refine ⟨?_, rfl, rfl, rfl, rfl⟩
      simp [wk, *]
    · refine wv_iconst (v := 1) dX8_worked_81 (by decide) ?_
      refine wv_goto (tgt := 86) dX8_worked_82 (by decide) ?_
      refine wv_iret rfl dX8_worked_86 ?_
      refine ⟨?_, rfl, rfl, rfl, rfl⟩
      simp [wk, *]
  by_cases hv1_24 : p = 24
  · subst hv1_24
    refine wv_tableIn (off := 86) (tgt := 87) dX8_worked_1 (by decide) (by decide) (by decide) (by decide) ?_
    refine wv_iload_n dX8_worked_87 rfl ?_
    refine wv_iload_n dX8_worked_88 rfl ?_
    refine wv_icmp_ge (tgt := 96) dX8_worked_89 (by decide) (fun h89 => ?_) (fun h89 => ?_)
    · refine wv_iconst (v := 0) dX8_worked_96 (by decide) ?_
      refine wv_iret rfl dX8_worked_97 ?_
      refine ⟨?_, rfl, rfl, rfl, rfl⟩
      simp [wk, *]
    · refine wv_iconst (v := 1) dX8_worked_92 (by decide) ?_
      refine wv_goto (tgt := 97) dX8_worked_93 (by decide) ?_
      refine wv_iret rfl dX8_worked_97 ?_
      refine ⟨?_, rfl, rfl, rfl, rfl⟩
      simp [wk, *]
  by_cases hv1_25 : p = 25
  · subst hv1_25
    refine wv_tableIn (off := 97) (tgt := 98) dX8_worked_1 (by decide) (by decide) (by decide) (by decide) ?_
    refine wv_iload_n dX8_worked_98 rfl ?_
    refine wv_iload_n dX8_worked_99 rfl ?_
    refine wv_icmp_le (tgt := 107) dX8_worked_100 (by decide) (fun h100 => ?_) (fun h100 => ?_)
    · refine wv_iconst (v := 0) dX8_worked_107 (by decide) ?_
      refine wv_iret rfl dX8_worked_108 ?_
      refine ⟨?_, rfl, rfl, rfl, rfl⟩
      simp [wk, *]
    · refine wv_iconst (v := 1) dX8_worked_103 (by decide) ?_
      refine wv_goto (tgt := 108) dX8_worked_104 (by decide) ?_
      refine wv_iret rfl dX8_worked_108 ?_
      refine ⟨?_, rfl, rfl, rfl, rfl⟩
      simp [wk, *]
  by_cases hv1_26 : p = 26
  · subst hv1_26
    refine wv_tableIn (off := 108) (tgt := 109) dX8_worked_1 (by decide) (by decide) (by decide) (by decide) ?_
    refine wv_iload_n dX8_worked_109 rfl ?_
    refine wv_iload_n dX8_worked_110 rfl ?_
    refine wv_iadd dX8_worked_111 ?_
    refine wv_iret rfl dX8_worked_112 ?_
    refine ⟨?_, rfl, rfl, rfl, rfl⟩
    simp [wk, *]
  by_cases hv1_27 : p = 27
  · subst hv1_27
    refine wv_tableIn (off := 112) (tgt := 113) dX8_worked_1 (by decide) (by decide) (by decide) (by decide) ?_
    refine wv_iload_n dX8_worked_113 rfl ?_
    refine wv_iload_n dX8_worked_114 rfl ?_
    refine wv_isub dX8_worked_115 ?_
    refine wv_iret rfl dX8_worked_116 ?_
    refine ⟨?_, rfl, rfl, rfl, rfl⟩
    simp [wk, *]
  refine wv_tableOut (tgt := 117) dX8_worked_1 (by have q0 : (p).toInt ≠ 20 := wr_ne hv1_20; have q1 : (p).toInt ≠ 21 := wr_ne hv1_21; have q2 : (p).toInt ≠ 22 := wr_ne hv1_22; have q3 : (p).toInt ≠ 23 := wr_ne hv1_23; have q4 : (p).toInt ≠ 24 := wr_ne hv1_24; have q5 : (p).toInt ≠ 25 := wr_ne hv1_25; have q6 : (p).toInt ≠ 26 := wr_ne hv1_26; have q7 : (p).toInt ≠ 27 := wr_ne hv1_27; omega) (by decide) ?_
  refine wv_iload_n dX8_worked_117 rfl ?_
  refine wv_iload_n dX8_worked_118 rfl ?_
  refine wv_imul dX8_worked_119 ?_
  refine wv_iret rfl dX8_worked_120 ?_
  refine ⟨?_, rfl, rfl, rfl, rfl⟩
  simp [wk, *]

set_option maxHeartbeats 4000000 in
set_option maxRecDepth 100000 in
theorem x_slack {l : Launch} {I : wr_TI} {L : wr_TL} {R : wr_TR} (hR : wr_RC R) (g : RG) (S : SS) (ok : gOK g) (hg : mgV I g) (hS : mcV I S) : wr_E l 0 mX8_slackNow [.ref 55] SH I L R (some (.int (slk g (S.2.2.1 + 1)))) I L R := by
  have ht : I 55 57 = S.2.2.1 := hS.2.2.1
  have hn : I 55 29 = nI g.2.1.2.2.2 := hg.2.2.2.2.2.1
  have h6 : g.2.1.2.2.2 ≤ 6 := ok.2.2.2.1
  have lp : ∀ (k i : Nat), i + k = g.2.1.2.2.2 → wr_V l 0 mX8_slackNow 2 [some (.ref 55), some (.int (nI i))] [] SH I L R 0 0 (fun v s' I' L' R' => v = some (.int (sl g.2.1.1 g.2.1.2.1 g.2.1.2.2.1 (S.2.2.1 + 1) k i)) ∧ s' = SH ∧ I' = I ∧ L' = L ∧ R' = R) := by
    intro k
    induction k with
    | zero =>
      intro i hi
      obtain rfl : i = g.2.1.2.2.2 := by omega
      refine wv_iload_n dX8_slackNow_2 rfl ?_
      refine wv_aload_n dX8_slackNow_3 rfl ?_
      refine wv_getI fX8_375 dX8_slackNow_4 rfl (by first | assumption | rfl) ?_
      refine wv_icmp_ge (tgt := 53) dX8_slackNow_7 (by decide) (fun h7 => ?_) (fun h7 => absurd (by rw [hn]; exact Int32.le_refl _) h7)
      refine wv_iconst (v := 0) dX8_slackNow_53 (by decide) ?_
      refine wv_iret rfl dX8_slackNow_54 ?_
      exact ⟨rfl, rfl, rfl, rfl, rfl⟩
    | succ k ih =>
      intro i hi
      obtain ⟨e1, e2, e3⟩ := hg.2.2.2.2.1 i (by omega)
      refine wv_iload_n dX8_slackNow_2 rfl ?_
      refine wv_aload_n dX8_slackNow_3 rfl ?_
      refine wv_getI fX8_375 dX8_slackNow_4 rfl (by first | assumption | rfl) ?_
      refine wv_icmp_ge (tgt := 53) dX8_slackNow_7 (by decide) (fun h7 => absurd h7 (by rw [hn]; exact nI_ge (by omega) (by omega))) (fun h7 => ?_)
      refine wv_aload_n dX8_slackNow_10 rfl ?_
      refine wv_getI fX8_381 dX8_slackNow_11 rfl (by first | assumption | rfl) ?_
      refine wv_iconst (v := 1) dX8_slackNow_14 (by decide) ?_
      refine wv_iadd dX8_slackNow_15 ?_
      refine wv_aload_n dX8_slackNow_16 rfl ?_
      refine wv_getR fX8_45 dX8_slackNow_17 rfl (by first | assumption | rfl) (by first | exact hR _ _ _ rfl | assumption) ?_
      refine wv_iload_n dX8_slackNow_20 rfl ?_
      refine wv_ialdN dX8_slackNow_21 (by first | assumption | rfl) (by omega) (by decide) ?_
      refine wv_icmp_lt (tgt := 47) dX8_slackNow_22 (by decide) (fun h22 => ?_) (fun h22 => ?_)
      · rw [e1, ht] at h22
        refine wv_iinc (v := nI (i + 1)) dX8_slackNow_47 rfl (nI_1 (i)) (by decide) ?_
        refine wv_goto (tgt := 2) dX8_slackNow_50 (by decide) ?_
        have en : ¬ (g.2.1.1 i ≤ S.2.2.1 + 1 ∧ S.2.2.1 + 1 ≤ g.2.1.2.1 i) := fun q => by
          first
            | exact absurd h22 (Int32.not_lt.mpr q.1)
            | exact absurd h37 (Int32.not_lt.mpr q.2)
        have := ih (i + 1) (by omega)
        simp only [sl]
        rw [if_neg en]
        exact wv_le (by simp [wr_leq, wr_s1, wr_s2, wr_wide]) this
      · rw [e1, ht] at h22
        refine wv_aload_n dX8_slackNow_25 rfl ?_
        refine wv_getI fX8_381 dX8_slackNow_26 rfl (by first | assumption | rfl) ?_
        refine wv_iconst (v := 1) dX8_slackNow_29 (by decide) ?_
        refine wv_iadd dX8_slackNow_30 ?_
        refine wv_aload_n dX8_slackNow_31 rfl ?_
        refine wv_getR fX8_48 dX8_slackNow_32 rfl (by first | assumption | rfl) (by first | exact hR _ _ _ rfl | assumption) ?_
        refine wv_iload_n dX8_slackNow_35 rfl ?_
        refine wv_ialdN dX8_slackNow_36 (by first | assumption | rfl) (by omega) (by decide) ?_
        refine wv_icmp_gt (tgt := 47) dX8_slackNow_37 (by decide) (fun h37 => ?_) (fun h37 => ?_)
        · rw [e2, ht] at h37
          refine wv_iinc (v := nI (i + 1)) dX8_slackNow_47 rfl (nI_1 (i)) (by decide) ?_
          refine wv_goto (tgt := 2) dX8_slackNow_50 (by decide) ?_
          have en : ¬ (g.2.1.1 i ≤ S.2.2.1 + 1 ∧ S.2.2.1 + 1 ≤ g.2.1.2.1 i) := fun q => by
            first
              | exact absurd h22 (Int32.not_lt.mpr q.1)
              | exact absurd h37 (Int32.not_lt.mpr q.2)
          have := ih (i + 1) (by omega)
          simp only [sl]
          rw [if_neg en]
          exact wv_le (by simp [wr_leq, wr_s1, wr_s2, wr_wide]) this
        · rw [e2, ht] at h37
          refine wv_aload_n dX8_slackNow_40 rfl ?_
          refine wv_getR fX8_51 dX8_slackNow_41 rfl (by first | assumption | rfl) (by first | exact hR _ _ _ rfl | assumption) ?_
          refine wv_iload_n dX8_slackNow_44 rfl ?_
          refine wv_ialdN dX8_slackNow_45 (by first | assumption | rfl) (by omega) (by decide) ?_
          refine wv_iret rfl dX8_slackNow_46 ?_
          refine ⟨?_, rfl, rfl, rfl, rfl⟩
          simp only [sl]
          rw [if_pos ⟨Int32.not_lt.mp h22, Int32.not_lt.mp h37⟩, e3]
  refine wv_pad 1 ?_
  show wr_V l 0 mX8_slackNow 0 [some (.ref 55), none] [] SH I L R 0 0 _
  refine wv_iconst (v := nI 0) dX8_slackNow_0 rfl ?_
  refine wv_istore_k (i := 1) dX8_slackNow_1 rfl (by decide) ?_
  exact wv_le (by simp [wr_leq, wr_s1, wr_s2, wr_wide]) (lp _ 0 (by omega))

set_option maxHeartbeats 4000000 in
set_option maxRecDepth 100000 in
theorem x_asked {l : Launch} {I : wr_TI} {L : wr_TL} {R : wr_TR} (hR : wr_RC R) (g : RG) (S : SS) (ok : gOK g) (hg : mgV I g) (hS : mcV I S) (s : Nat) (hs : s < gN g) (k q : Nat) (hk : k < gLn g) (hq : gC g k = nI q) (hq2 : q < 10007) : wr_E l 2 mX8_askedOf [.ref 55, .int (nI s), .int (nI k), .int (nI (upn g S))] SH I L R (some (.int (if q < 10000 then nI q else lk g S s (q - 10000)))) I L R := by
  obtain ⟨k6, k40, -, -, -, -, kse, -⟩ := id ok
  have hn : I 55 28 = nI (gN g) := hg.1
  have hse : I 55 32 = nI (gSe g) := hg.2.2.2.2.2.2.2.2.1
  have ef : ∀ u, u < gN g → decide (I 75 u = 1) = f1 S u := fun u hu => by unfold f1; rw [hS.1 u (by omega)]
  have hk2 : k < 300 := by have := ok.2.2.2.2.2.2.2.2.1; omega
  obtain ⟨hw, hw0⟩ := hg.2.2.2.2.2.2.2.2.2.2.2 k hk q hq (by omega)
  by_cases hc : q < 10000
  · rw [if_pos hc]
    have hw1 : whN q = 0 := by simp [whN, hc]
    rw [hw1] at hw
    have hw2 := hw0 hc
    refine wv_pad 0 ?_
    show wr_V l 2 mX8_askedOf 0 [some (.ref 55), some (.int (nI s)), some (.int (nI k)), some (.int (nI (upn g S)))] [] SH I L R 0 0 _
    refine wv_aload_n dX8_askedOf_0 rfl ?_
    refine wv_getR fX8_60 dX8_askedOf_1 rfl (by first | assumption | rfl) (by first | exact hR _ _ _ rfl | assumption) ?_
    refine wv_iload_n dX8_askedOf_4 rfl ?_
    refine wv_ialdN dX8_askedOf_5 (by first | assumption | rfl) (by omega) (by decide) ?_
    rw [hw]
    refine wv_tableIn (off := 42) (tgt := 48) dX8_askedOf_6 (by decide) (by decide) (by decide) (by decide) ?_
    refine wv_aload_n dX8_askedOf_48 rfl ?_
    refine wv_getR fX8_63 dX8_askedOf_49 rfl (by first | assumption | rfl) (by first | exact hR _ _ _ rfl | assumption) ?_
    refine wv_iload_n dX8_askedOf_52 rfl ?_
    refine wv_ialdN dX8_askedOf_53 (by first | assumption | rfl) (by omega) (by decide) ?_
    rw [hw2]
    refine wv_iret rfl dX8_askedOf_54 ?_
    exact ⟨rfl, rfl, rfl, rfl, rfl⟩
  · rw [if_neg hc]
    obtain ⟨j, rfl⟩ : ∃ j, q = 10000 + j := ⟨q - 10000, by omega⟩
    have hj : j < 7 := by omega
    have hw1 : whN (10000 + j) = j + 1 := by
      unfold whN
      rw [if_neg (by omega), if_pos (by omega)]
      omega
    rw [hw1] at hw
    rw [show 10000 + j - 10000 = j by omega]
    have hj7 : j = 0 ∨ j = 1 ∨ j = 2 ∨ j = 3 ∨ j = 4 ∨ j = 5 ∨ j = 6 := by omega
    rcases hj7 with rfl | rfl | rfl | rfl | rfl | rfl | rfl
    · refine wv_pad 0 ?_
      show wr_V l 2 mX8_askedOf 0 [some (.ref 55), some (.int (nI s)), some (.int (nI k)), some (.int (nI (upn g S)))] [] SH I L R 0 0 _
      refine wv_aload_n dX8_askedOf_0 rfl ?_
      refine wv_getR fX8_60 dX8_askedOf_1 rfl (by first | assumption | rfl) (by first | exact hR _ _ _ rfl | assumption) ?_
      refine wv_iload_n dX8_askedOf_4 rfl ?_
      refine wv_ialdN dX8_askedOf_5 (by first | assumption | rfl) (by omega) (by decide) ?_
      rw [hw]
      refine wv_tableIn (off := 49) (tgt := 55) dX8_askedOf_6 (by decide) (by decide) (by decide) (by decide) ?_
      refine wv_aload_n dX8_askedOf_55 rfl ?_
      refine wv_aload_n dX8_askedOf_56 rfl ?_
      refine wv_getR fX8_72 dX8_askedOf_57 rfl (by first | assumption | rfl) (by first | exact hR _ _ _ rfl | assumption) ?_
      refine wv_iload_n dX8_askedOf_60 rfl ?_
      refine wv_iconst (v := (-1)) dX8_askedOf_61 (by decide) ?_
      refine wv_aload_n dX8_askedOf_62 rfl ?_
      refine wv_getI fX8_360 dX8_askedOf_63 rfl (by first | assumption | rfl) ?_
      rw [hse]
      refine wv_v4e oX8_seen kX8_399 dX8_askedOf_66 (by omega) (by first | assumption | rfl) ⟨rfl, by decide⟩ (Nat.le_of_ble_eq_true rfl) (Nat.le_of_ble_eq_true rfl) (x_seenL 75 (gN g) s (gSe g) rfl hn k6 k40 hs kse.2) ?_
      refine wv_iret rfl dX8_askedOf_69 ?_
      refine ⟨?_, rfl, rfl, rfl, rfl⟩
      rw [sL_congr (by omega) ef]
      rfl
    · refine wv_pad 0 ?_
      show wr_V l 2 mX8_askedOf 0 [some (.ref 55), some (.int (nI s)), some (.int (nI k)), some (.int (nI (upn g S)))] [] SH I L R 0 0 _
      refine wv_aload_n dX8_askedOf_0 rfl ?_
      refine wv_getR fX8_60 dX8_askedOf_1 rfl (by first | assumption | rfl) (by first | exact hR _ _ _ rfl | assumption) ?_
      refine wv_iload_n dX8_askedOf_4 rfl ?_
      refine wv_ialdN dX8_askedOf_5 (by first | assumption | rfl) (by omega) (by decide) ?_
      rw [hw]
      refine wv_tableIn (off := 64) (tgt := 70) dX8_askedOf_6 (by decide) (by decide) (by decide) (by decide) ?_
      refine wv_aload_n dX8_askedOf_70 rfl ?_
      refine wv_aload_n dX8_askedOf_71 rfl ?_
      refine wv_getR fX8_72 dX8_askedOf_72 rfl (by first | assumption | rfl) (by first | exact hR _ _ _ rfl | assumption) ?_
      refine wv_iload_n dX8_askedOf_75 rfl ?_
      refine wv_iconst (v := 1) dX8_askedOf_76 (by decide) ?_
      refine wv_aload_n dX8_askedOf_77 rfl ?_
      refine wv_getI fX8_360 dX8_askedOf_78 rfl (by first | assumption | rfl) ?_
      rw [hse]
      refine wv_v4e oX8_seen kX8_399 dX8_askedOf_81 (by omega) (by first | assumption | rfl) ⟨rfl, by decide⟩ (Nat.le_of_ble_eq_true rfl) (Nat.le_of_ble_eq_true rfl) (x_seenR 75 (gN g) s (gSe g) rfl hn k6 k40 hs kse.2) ?_
      refine wv_iret rfl dX8_askedOf_84 ?_
      refine ⟨?_, rfl, rfl, rfl, rfl⟩
      rw [sR_congr (by omega) ef]
      rfl
    · refine wv_pad 0 ?_
      show wr_V l 2 mX8_askedOf 0 [some (.ref 55), some (.int (nI s)), some (.int (nI k)), some (.int (nI (upn g S)))] [] SH I L R 0 0 _
      refine wv_aload_n dX8_askedOf_0 rfl ?_
      refine wv_getR fX8_60 dX8_askedOf_1 rfl (by first | assumption | rfl) (by first | exact hR _ _ _ rfl | assumption) ?_
      refine wv_iload_n dX8_askedOf_4 rfl ?_
      refine wv_ialdN dX8_askedOf_5 (by first | assumption | rfl) (by omega) (by decide) ?_
      rw [hw]
      refine wv_tableIn (off := 79) (tgt := 85) dX8_askedOf_6 (by decide) (by decide) (by decide) (by decide) ?_
      refine wv_aload_n dX8_askedOf_85 rfl ?_
      refine wv_v0e oX8_slackNow kX8_403 dX8_askedOf_86 (by omega) (by first | assumption | rfl) ⟨rfl, by decide⟩ (Nat.le_of_ble_eq_true rfl) (Nat.le_of_ble_eq_true rfl) (x_slack hR g S ok hg hS) ?_
      refine wv_iret rfl dX8_askedOf_89 ?_
      exact ⟨rfl, rfl, rfl, rfl, rfl⟩
    · refine wv_pad 0 ?_
      show wr_V l 2 mX8_askedOf 0 [some (.ref 55), some (.int (nI s)), some (.int (nI k)), some (.int (nI (upn g S)))] [] SH I L R 0 0 _
      refine wv_aload_n dX8_askedOf_0 rfl ?_
      refine wv_getR fX8_60 dX8_askedOf_1 rfl (by first | assumption | rfl) (by first | exact hR _ _ _ rfl | assumption) ?_
      refine wv_iload_n dX8_askedOf_4 rfl ?_
      refine wv_ialdN dX8_askedOf_5 (by first | assumption | rfl) (by omega) (by decide) ?_
      rw [hw]
      refine wv_tableIn (off := 84) (tgt := 90) dX8_askedOf_6 (by decide) (by decide) (by decide) (by decide) ?_
      refine wv_aload_n dX8_askedOf_90 rfl ?_
      refine wv_getI fX8_384 dX8_askedOf_91 rfl (by first | assumption | rfl) ?_
      refine wv_iret rfl dX8_askedOf_94 ?_
      refine ⟨?_, rfl, rfl, rfl, rfl⟩
      rw [show I 55 58 = S.2.2.2 from hS.2.2.2]
      rfl
    · refine wv_pad 0 ?_
      show wr_V l 2 mX8_askedOf 0 [some (.ref 55), some (.int (nI s)), some (.int (nI k)), some (.int (nI (upn g S)))] [] SH I L R 0 0 _
      refine wv_aload_n dX8_askedOf_0 rfl ?_
      refine wv_getR fX8_60 dX8_askedOf_1 rfl (by first | assumption | rfl) (by first | exact hR _ _ _ rfl | assumption) ?_
      refine wv_iload_n dX8_askedOf_4 rfl ?_
      refine wv_ialdN dX8_askedOf_5 (by first | assumption | rfl) (by omega) (by decide) ?_
      rw [hw]
      refine wv_tableIn (off := 89) (tgt := 95) dX8_askedOf_6 (by decide) (by decide) (by decide) (by decide) ?_
      refine wv_aload_n dX8_askedOf_95 rfl ?_
      refine wv_getR fX8_75 dX8_askedOf_96 rfl (by first | assumption | rfl) (by first | exact hR _ _ _ rfl | assumption) ?_
      refine wv_iload_n dX8_askedOf_99 rfl ?_
      refine wv_ialdN dX8_askedOf_100 (by first | assumption | rfl) (by omega) (by decide) ?_
      refine wv_iret rfl dX8_askedOf_101 ?_
      refine ⟨?_, rfl, rfl, rfl, rfl⟩
      rw [hS.2.1 s (by omega)]
      rfl
    · refine wv_pad 0 ?_
      show wr_V l 2 mX8_askedOf 0 [some (.ref 55), some (.int (nI s)), some (.int (nI k)), some (.int (nI (upn g S)))] [] SH I L R 0 0 _
      refine wv_aload_n dX8_askedOf_0 rfl ?_
      refine wv_getR fX8_60 dX8_askedOf_1 rfl (by first | assumption | rfl) (by first | exact hR _ _ _ rfl | assumption) ?_
      refine wv_iload_n dX8_askedOf_4 rfl ?_
      refine wv_ialdN dX8_askedOf_5 (by first | assumption | rfl) (by omega) (by decide) ?_
      rw [hw]
      refine wv_tableIn (off := 96) (tgt := 102) dX8_askedOf_6 (by decide) (by decide) (by decide) (by decide) ?_
      refine wv_iload_n dX8_askedOf_102 rfl ?_
      refine wv_iret rfl dX8_askedOf_103 ?_
      exact ⟨rfl, rfl, rfl, rfl, rfl⟩
    · refine wv_pad 0 ?_
      show wr_V l 2 mX8_askedOf 0 [some (.ref 55), some (.int (nI s)), some (.int (nI k)), some (.int (nI (upn g S)))] [] SH I L R 0 0 _
      refine wv_aload_n dX8_askedOf_0 rfl ?_
      refine wv_getR fX8_60 dX8_askedOf_1 rfl (by first | assumption | rfl) (by first | exact hR _ _ _ rfl | assumption) ?_
      refine wv_iload_n dX8_askedOf_4 rfl ?_
      refine wv_ialdN dX8_askedOf_5 (by first | assumption | rfl) (by omega) (by decide) ?_
      rw [hw]
      refine wv_tableOut (tgt := 104) dX8_askedOf_6 (by decide) (by decide) ?_
      refine wv_aload_n dX8_askedOf_104 rfl ?_
      refine wv_getI fX8_381 dX8_askedOf_105 rfl (by first | assumption | rfl) ?_
      refine wv_iconst (v := 1) dX8_askedOf_108 (by decide) ?_
      refine wv_iadd dX8_askedOf_109 ?_
      refine wv_iret rfl dX8_askedOf_110 ?_
      refine ⟨?_, rfl, rfl, rfl, rfl⟩
      rw [show I 55 57 = S.2.2.1 from hS.2.2.1]
      rfl

set_option maxHeartbeats 4000000 in
set_option maxRecDepth 100000 in
theorem x_wants {l : Launch} {I : wr_TI} {L : wr_TL} {R : wr_TR} (hR : wr_RC R) (g : RG) (S : SS) (ok : gOK g) (hg : mgV I g) (hS : mcV I S) (s : Nat) (hs : s < gN g) (dr : Nat → Bool) (hdr : dr s = (decide (I 60 s ≠ 0) || decide (I 82 s ≠ 0))) : wr_P l 3 mX8_wants [.ref 55, .int (nI s), .int (nI (upn g S))] SH I L R (fun v s' I' L' R' => v = some (.int (if wnt g dr S s = true then 1 else 0)) ∧ s' = SH ∧ L' = L ∧ R' = R ∧ ∀ a, a ≠ 74 → I' a = I a) := by
  obtain ⟨k6, k40, -, -, -, -, kse, -⟩ := id ok
  have hn : I 55 28 = nI (gN g) := hg.1
  have hse : I 55 32 = nI (gSe g) := hg.2.2.2.2.2.2.2.2.1
  have ef : ∀ u, u < gN g → decide (I 75 u = 1) = f1 S u := fun u hu => by unfold f1; rw [hS.1 u (by omega)]
  have hno : I 55 44 = nI (gLn g) := hg.2.2.2.2.2.2.2.2.2.2.1
  have hln : gLn g ≤ 260 := ok.2.2.2.2.2.2.2.2.1
  have hst := hS.1 s (by omega)
  have lp : ∀ (k i h : Nat) (J : wr_TI) (T : Nat → Int32), i + k = gLn g → wfl (gC g) k i h → (∀ a, a ≠ 74 → J a = I a) → (∀ b, b < h → J 74 b = T b) → h ≤ 30 → wr_V l 3 mX8_wants 34 [some (.ref 55), some (.int (nI s)), some (.int (nI (upn g S))), some (.int (nI h)), some (.int (nI i))] [] SH J L R 0 0 (fun v s' I' L' R' => v = some (.int (nz ((evl (gC g) (lk g S s) k i (T, h)).1 0))) ∧ s' = SH ∧ L' = L ∧ R' = R ∧ ∀ a, a ≠ 74 → I' a = I a) := by
    intro k
    induction k with
    | zero =>
      intro i h J T hi hw hf hT hh
      have h1 : h = 1 := hw
      have eT := hT 0 (by omega)
      refine wv_iload dX8_wants_34 rfl ?_
      refine wv_aload_n dX8_wants_36 rfl ?_
      refine wv_getI fX8_369 dX8_wants_37 rfl (by first | assumption | rfl) ?_
      refine wv_icmp_ge (tgt := 155) dX8_wants_40 (by decide) (fun h40 => ?_) (fun h40 => absurd (by rw [hf 55 (by omega), hno]; exact nI_le (by omega) (by omega)) h40)
      refine wv_aload_n dX8_wants_155 rfl ?_
      refine wv_getR fX8_69 dX8_wants_156 rfl (by first | assumption | rfl) (by first | exact hR _ _ _ rfl | assumption) ?_
      refine wv_iconst (v := 0) dX8_wants_159 (by decide) ?_
      refine wv_ialdK (k := 0) dX8_wants_160 (by first | assumption | rfl) (by decide) (by unfold vp_in; decide) ?_
      refine wv_if_eq (tgt := 168) dX8_wants_161 (by decide) (fun h161 => ?_) (fun h161 => ?_)
      · rw [eT] at h161
        refine wv_iconst (v := 0) dX8_wants_168 (by decide) ?_
        refine wv_zret rfl rfl dX8_wants_169 ?_
        refine ⟨?_, rfl, rfl, rfl, hf⟩
        simp [evl, nz, h161]
      · rw [eT] at h161
        refine wv_iconst (v := 1) dX8_wants_164 (by decide) ?_
        refine wv_goto (tgt := 169) dX8_wants_165 (by decide) ?_
        refine wv_zret rfl rfl dX8_wants_169 ?_
        refine ⟨?_, rfl, rfl, rfl, hf⟩
        simp [evl, nz, h161]
    | succ k ih =>
      intro i h J T hi hw hf hT hh
      obtain ⟨z, hz, hc⟩ := hw
      have hzb : z ≤ 20008 := by omega
      obtain ⟨hw0, -⟩ := hg.2.2.2.2.2.2.2.2.2.2.2 i (by omega) z hz hzb
      have hc1 : J 71 i = nI (whN z) := by rw [hf 71 (by omega), hw0]
      have hgJ : mgV J g := mgV_fr hg (fun k _ => by rw [hf 55 (by omega)]) (fun a ha => hf a (by omega))
      have hSJ : mcV J S := mcV_fr hS (hf _ (by omega)) (hf _ (by omega)) (by rw [hf 55 (by omega)]) (by rw [hf 55 (by omega)])
      have hstep : ∀ (J' : wr_TI) (T' : Nat → Int32) (h' : Nat), ev1 (gC g i) (lk g S s) (T, h) = (T', h') → wfl (gC g) k (i + 1) h' → (∀ a, a ≠ 74 → J' a = I a) → (∀ b, b < h' → J' 74 b = T' b) → h' ≤ 30 → wr_V l 3 mX8_wants 34 [some (.ref 55), some (.int (nI s)), some (.int (nI (upn g S))), some (.int (nI h')), some (.int (nI (i + 1)))] [] SH J' L R 0 0 (fun v s' I' L' R' => v = some (.int (nz ((evl (gC g) (lk g S s) (k + 1) i (T, h)).1 0))) ∧ s' = SH ∧ L' = L ∧ R' = R ∧ ∀ a, a ≠ 74 → I' a = I a) := by
        intro J' T' h' he hw' hf' hT' hh'
        have := ih (i + 1) h' J' T' (by omega) hw' hf' hT' hh'
        simp only [evl]
        rw [he]
        exact this
      have hfu : ∀ (k' : Nat) (x : Int32), ∀ a, a ≠ 74 → wr_uI J 74 k' x a = I a := fun k' x a ha => by rw [wr_uI_ne ha]; exact hf a ha
      by_cases hz7 : z < 10007
      · have c23 : h < 30 ∧ wfl (gC g) k (i + 1) (h + 1) := by
          rcases hc with ⟨c1, c2, c3⟩ | ⟨c1, c1b, c2, c3⟩ | ⟨c1, c2, c3⟩ | ⟨c1, c1b, c2, c3⟩
          · exact ⟨c2, c3⟩
          · exact ⟨c2, c3⟩
          · omega
          · omega
        obtain ⟨c2, c3⟩ := c23
        have e : ev1 (gC g i) (lk g S s) (T, h) = (upd T h (if z < 10000 then nI z else lk g S s (z - 10000)), h + 1) := by
          rw [hz]; unfold ev1; rw [if_pos (show nI z < 20000 from nI_lt (b := 20000) (by omega) (by omega))]
          by_cases hzz : z < 10000
          · rw [if_pos hzz, if_pos (show nI z < 10000 from nI_lt (b := 10000) (by omega) (by omega))]
          · rw [if_neg hzz, if_neg (show ¬ nI z < 10000 from nI_nlt (b := 10000) (by omega) (by omega)), show nI z - 10000 = nI (z - 10000) from pk_sub (b := 10000) (by omega), nI_clamp (by omega)]
        have hwl : whN z < 20 := by
          unfold whN
          split
          · omega
          · rw [if_pos (by omega)]; omega
        refine wv_iload dX8_wants_34 rfl ?_
        refine wv_aload_n dX8_wants_36 rfl ?_
        refine wv_getI fX8_369 dX8_wants_37 rfl (by first | assumption | rfl) ?_
        refine wv_icmp_ge (tgt := 155) dX8_wants_40 (by decide) (fun h40 => absurd h40 (by rw [hf 55 (by omega), hno]; exact nI_ge (by omega) (by omega))) (fun h40 => ?_)
        refine wv_aload_n dX8_wants_43 rfl ?_
        refine wv_getR fX8_60 dX8_wants_44 rfl (by first | assumption | rfl) (by first | exact hR _ _ _ rfl | assumption) ?_
        refine wv_iload dX8_wants_47 rfl ?_
        refine wv_ialdN dX8_wants_49 (by first | assumption | rfl) (by omega) (by decide) ?_
        rw [hc1]
        refine wv_bipush (v := 20) dX8_wants_50 (by decide) ?_
        refine wv_icmp_ge (tgt := 75) dX8_wants_52 (by decide) (fun h52 => absurd h52 (nI_ge (b := 20) (by omega) (by omega))) (fun h52 => ?_)
        refine wv_aload_n dX8_wants_55 rfl ?_
        refine wv_getR fX8_69 dX8_wants_56 rfl (by first | assumption | rfl) (by first | exact hR _ _ _ rfl | assumption) ?_
        refine wv_iload_n dX8_wants_59 rfl ?_
        refine wv_aload_n dX8_wants_60 rfl ?_
        refine wv_iload_n dX8_wants_61 rfl ?_
        refine wv_iload dX8_wants_62 rfl ?_
        refine wv_iload_n dX8_wants_64 rfl ?_
        refine wv_v3e oX8_askedOf kX8_406 dX8_wants_65 (by omega) (by first | assumption | rfl) ⟨rfl, by decide⟩ (Nat.le_of_ble_eq_true rfl) (Nat.le_of_ble_eq_true rfl) (x_asked hR g S ok hgJ hSJ s hs i z (by omega) hz hz7) ?_
        refine wv_iastN dX8_wants_68 (by first | assumption | rfl) (by omega) (by decide) ?_
        refine wv_iinc (v := nI (h + 1)) dX8_wants_69 rfl (nI_1 (h)) (by decide) ?_
        refine wv_goto (tgt := 149) dX8_wants_72 (by decide) ?_
        refine wv_iinc (v := nI (i + 1)) dX8_wants_149 rfl (nI_1 (i)) (by decide) ?_
        refine wv_goto (tgt := 34) dX8_wants_152 (by decide) ?_
        exact wv_le (by simp [wr_leq, wr_s1, wr_s2, wr_wide]) (hstep _ _ _ e c3 (hfu h _) (fun b hb => by simp only [wr_uI, upd]; by_cases hbh : b = h <;> simp [hbh]; exact hT b (by omega)) (by omega))
      · rcases hc with ⟨c1, c2, c3⟩ | ⟨c1, c1b, c2, c3⟩ | ⟨c1, c2, c3⟩ | ⟨c1, c1b, c2, c3⟩
        · omega
        · omega
        · subst c1
          have e : ev1 (gC g i) (lk g S s) (T, h) = (upd T (h - 1) (if T (h - 1) = 0 then 1 else 0), h) := by
            rw [hz]; unfold ev1; rw [if_neg (show ¬ nI 20000 < 20000 by decide), if_pos (show nI 20000 = 20000 from rfl)]
          have hS1 := hT (h - 1) (by omega)
          rw [show whN 20000 = 22 from rfl] at hc1
          refine wv_iload dX8_wants_34 rfl ?_
          refine wv_aload_n dX8_wants_36 rfl ?_
          refine wv_getI fX8_369 dX8_wants_37 rfl (by first | assumption | rfl) ?_
          refine wv_icmp_ge (tgt := 155) dX8_wants_40 (by decide) (fun h40 => absurd h40 (by rw [hf 55 (by omega), hno]; exact nI_ge (by omega) (by omega))) (fun h40 => ?_)
          refine wv_aload_n dX8_wants_43 rfl ?_
          refine wv_getR fX8_60 dX8_wants_44 rfl (by first | assumption | rfl) (by first | exact hR _ _ _ rfl | assumption) ?_
          refine wv_iload dX8_wants_47 rfl ?_
          refine wv_ialdN dX8_wants_49 (by first | assumption | rfl) (by omega) (by decide) ?_
          rw [hc1]
          refine wv_bipush (v := 20) dX8_wants_50 (by decide) ?_
          refine wv_icmp_ge (tgt := 75) dX8_wants_52 (by decide) (fun h52 => ?_) (fun h52 => absurd (by decide) h52)
          refine wv_aload_n dX8_wants_75 rfl ?_
          refine wv_getR fX8_60 dX8_wants_76 rfl (by first | assumption | rfl) (by first | exact hR _ _ _ rfl | assumption) ?_
          refine wv_iload dX8_wants_79 rfl ?_
          refine wv_ialdN dX8_wants_81 (by first | assumption | rfl) (by omega) (by decide) ?_
          rw [hc1]
          refine wv_bipush (v := 22) dX8_wants_82 (by decide) ?_
          refine wv_icmp_ne (tgt := 114) dX8_wants_84 (by decide) (fun h84 => absurd (show nI 22 = 22 from rfl) h84) (fun h84 => ?_)
          refine wv_aload_n dX8_wants_87 rfl ?_
          refine wv_getR fX8_69 dX8_wants_88 rfl (by first | assumption | rfl) (by first | exact hR _ _ _ rfl | assumption) ?_
          refine wv_iload_n dX8_wants_91 rfl ?_
          refine wv_iconst (v := 1) dX8_wants_92 (by decide) ?_
          refine wv_isub dX8_wants_93 ?_
          refine wv_aload_n dX8_wants_94 rfl ?_
          refine wv_getR fX8_69 dX8_wants_95 rfl (by first | assumption | rfl) (by first | exact hR _ _ _ rfl | assumption) ?_
          refine wv_iload_n dX8_wants_98 rfl ?_
          refine wv_iconst (v := 1) dX8_wants_99 (by decide) ?_
          refine wv_isub dX8_wants_100 ?_
          refine wv_ialdK (k := h - 1) dX8_wants_101 (by first | assumption | rfl) (pk_c1 (by omega) (by omega)) (pk_i1 (by omega) (by omega) (by decide)) ?_
          refine wv_if_ne (tgt := 109) dX8_wants_102 (by decide) (fun h102 => ?_) (fun h102 => ?_)
          · have h102s : ¬ T (h - 1) = 0 := by rw [← hS1]; exact h102
            rw [if_neg h102s] at e
            refine wv_iconst (v := 0) dX8_wants_109 (by decide) ?_
            refine wv_iastK (k := h - 1) dX8_wants_110 (by first | assumption | rfl) (pk_c1 (by omega) (by omega)) (pk_i1 (by omega) (by omega) (by decide)) ?_
            refine wv_goto (tgt := 149) dX8_wants_111 (by decide) ?_
            refine wv_iinc (v := nI (i + 1)) dX8_wants_149 rfl (nI_1 (i)) (by decide) ?_
            refine wv_goto (tgt := 34) dX8_wants_152 (by decide) ?_
            exact wv_le (by simp [wr_leq, wr_s1, wr_s2, wr_wide]) (hstep _ _ _ e c3 (hfu (h - 1) _) (fun b hb => by simp only [wr_uI, upd]; by_cases hbh : b = h - 1 <;> simp [hbh]; exact hT b (by omega)) (by omega))
          · have h102s : T (h - 1) = 0 := by rw [← hS1]; exact h102
            rw [if_pos h102s] at e
            refine wv_iconst (v := 1) dX8_wants_105 (by decide) ?_
            refine wv_goto (tgt := 110) dX8_wants_106 (by decide) ?_
            refine wv_iastK (k := h - 1) dX8_wants_110 (by first | assumption | rfl) (pk_c1 (by omega) (by omega)) (pk_i1 (by omega) (by omega) (by decide)) ?_
            refine wv_goto (tgt := 149) dX8_wants_111 (by decide) ?_
            refine wv_iinc (v := nI (i + 1)) dX8_wants_149 rfl (nI_1 (i)) (by decide) ?_
            refine wv_goto (tgt := 34) dX8_wants_152 (by decide) ?_
            exact wv_le (by simp [wr_leq, wr_s1, wr_s2, wr_wide]) (hstep _ _ _ e c3 (hfu (h - 1) _) (fun b hb => by simp only [wr_uI, upd]; by_cases hbh : b = h - 1 <;> simp [hbh]; exact hT b (by omega)) (by omega))
        · have e : ev1 (gC g i) (lk g S s) (T, h) = (upd T (h - 2) (jn (nI z) (T (h - 2)) (T (h - 1))), h - 1) := by
            rw [hz]; unfold ev1; rw [if_neg (show ¬ nI z < 20000 from nI_nlt (b := 20000) (by omega) (by omega)), if_neg (show ¬ nI z = 20000 from fun q => by have := (nI_eq (b := 20000) (by omega) (by omega)).mp q; omega)]
          have hS1 := hT (h - 1) (by omega)
          have hS2 := hT (h - 2) (by omega)
          have hwl : 20 ≤ whN z ∧ whN z ≤ 28 ∧ whN z ≠ 22 := by
            have hz8 : z = 20001 ∨ z = 20002 ∨ z = 20003 ∨ z = 20004 ∨ z = 20005 ∨ z = 20006 ∨ z = 20007 ∨ z = 20008 := by omega
            rcases hz8 with rfl | rfl | rfl | rfl | rfl | rfl | rfl | rfl <;> decide
          have hh1 : nI (h - 1) - 1 = nI (h - 2) := by rw [show (1 : Int32) = nI 1 from rfl, pk_sub (by omega)]; congr 1
          refine wv_iload dX8_wants_34 rfl ?_
          refine wv_aload_n dX8_wants_36 rfl ?_
          refine wv_getI fX8_369 dX8_wants_37 rfl (by first | assumption | rfl) ?_
          refine wv_icmp_ge (tgt := 155) dX8_wants_40 (by decide) (fun h40 => absurd h40 (by rw [hf 55 (by omega), hno]; exact nI_ge (by omega) (by omega))) (fun h40 => ?_)
          refine wv_aload_n dX8_wants_43 rfl ?_
          refine wv_getR fX8_60 dX8_wants_44 rfl (by first | assumption | rfl) (by first | exact hR _ _ _ rfl | assumption) ?_
          refine wv_iload dX8_wants_47 rfl ?_
          refine wv_ialdN dX8_wants_49 (by first | assumption | rfl) (by omega) (by decide) ?_
          rw [hc1]
          refine wv_bipush (v := 20) dX8_wants_50 (by decide) ?_
          refine wv_icmp_ge (tgt := 75) dX8_wants_52 (by decide) (fun h52 => ?_) (fun h52 => absurd (nI_le (a := 20) (by omega) (by omega)) h52)
          refine wv_aload_n dX8_wants_75 rfl ?_
          refine wv_getR fX8_60 dX8_wants_76 rfl (by first | assumption | rfl) (by first | exact hR _ _ _ rfl | assumption) ?_
          refine wv_iload dX8_wants_79 rfl ?_
          refine wv_ialdN dX8_wants_81 (by first | assumption | rfl) (by omega) (by decide) ?_
          rw [hc1]
          refine wv_bipush (v := 22) dX8_wants_82 (by decide) ?_
          refine wv_icmp_ne (tgt := 114) dX8_wants_84 (by decide) (fun h84 => ?_) (fun h84 => absurd h84 (fun q => by have := (nI_eq (b := 22) (by omega) (by omega)).mp q; omega))
          refine wv_iinc (v := nI (h - 1)) dX8_wants_114 rfl (by obtain ⟨h9, rfl⟩ : ∃ x, h = x + 1 := ⟨h - 1, by omega⟩; exact pk_m1 h9) (by decide) ?_
          
          refine wv_aload_n dX8_wants_117 rfl ?_
          refine wv_getR fX8_69 dX8_wants_118 rfl (by first | assumption | rfl) (by first | exact hR _ _ _ rfl | assumption) ?_
          refine wv_iload_n dX8_wants_121 rfl ?_
          refine wv_iconst (v := 1) dX8_wants_122 (by decide) ?_
          refine wv_isub dX8_wants_123 ?_
          rw [hh1]
          refine wv_aload_n dX8_wants_124 rfl ?_
          refine wv_getR fX8_60 dX8_wants_125 rfl (by first | assumption | rfl) (by first | exact hR _ _ _ rfl | assumption) ?_
          refine wv_iload dX8_wants_128 rfl ?_
          refine wv_ialdN dX8_wants_130 (by first | assumption | rfl) (by omega) (by decide) ?_
          refine wv_aload_n dX8_wants_131 rfl ?_
          refine wv_getR fX8_69 dX8_wants_132 rfl (by first | assumption | rfl) (by first | exact hR _ _ _ rfl | assumption) ?_
          refine wv_iload_n dX8_wants_135 rfl ?_
          refine wv_iconst (v := 1) dX8_wants_136 (by decide) ?_
          refine wv_isub dX8_wants_137 ?_
          rw [hh1]
          refine wv_ialdN dX8_wants_138 (by first | assumption | rfl) (by omega) (by decide) ?_
          refine wv_aload_n dX8_wants_139 rfl ?_
          refine wv_getR fX8_69 dX8_wants_140 rfl (by first | assumption | rfl) (by first | exact hR _ _ _ rfl | assumption) ?_
          refine wv_iload_n dX8_wants_143 rfl ?_
          refine wv_ialdN dX8_wants_144 (by first | assumption | rfl) (by omega) (by decide) ?_
          rw [hc1]
          refine wv_s3e oX8_worked kX8_410 dX8_wants_145 (by omega) (Nat.le_of_ble_eq_true rfl) (Nat.le_of_ble_eq_true rfl) (x_worked _ _ _) ?_
          rw [hS1, hS2, wk_jn c1 c1b]
          refine wv_iastN dX8_wants_148 (by first | assumption | rfl) (by omega) (by decide) ?_
          refine wv_iinc (v := nI (i + 1)) dX8_wants_149 rfl (nI_1 (i)) (by decide) ?_
          refine wv_goto (tgt := 34) dX8_wants_152 (by decide) ?_
          exact wv_le (by simp [wr_leq, wr_s1, wr_s2, wr_wide]) (hstep _ _ _ e c3 (hfu (h - 2) _) (fun b hb => by simp only [wr_uI, upd]; by_cases hbh : b = h - 2 <;> simp [hbh]; exact hT b (by omega)) (by omega))
  refine wv_pad 2 ?_
  show wr_V l 3 mX8_wants 0 [some (.ref 55), some (.int (nI s)), some (.int (nI (upn g S))), none, none] [] SH I L R 0 0 _
  refine wv_aload_n dX8_wants_0 rfl ?_
  refine wv_getR fX8_72 dX8_wants_1 rfl (by first | assumption | rfl) (by first | exact hR _ _ _ rfl | assumption) ?_
  refine wv_iload_n dX8_wants_4 rfl ?_
  refine wv_ialdN dX8_wants_5 (by first | assumption | rfl) (by omega) (by decide) ?_
  refine wv_if_ne (tgt := 27) dX8_wants_6 (by decide) (fun h6 => ?_) (fun h6 => ?_)
  · rw [hst] at h6
    refine wv_iconst (v := 0) dX8_wants_27 (by decide) ?_
    refine wv_zret rfl rfl dX8_wants_28 ?_
    refine ⟨?_, rfl, rfl, rfl, fun _ _ => rfl⟩
    have : wnt g dr S s = false := by
      unfold wnt
      rw [hdr]
      simp [*]
    simp [this]
  · rw [hst] at h6
    refine wv_aload_n dX8_wants_9 rfl ?_
    refine wv_getR fX8_27 dX8_wants_10 rfl (by first | assumption | rfl) (by first | exact hR _ _ _ rfl | assumption) ?_
    refine wv_iload_n dX8_wants_13 rfl ?_
    refine wv_zaldN dX8_wants_14 (by first | assumption | rfl) (by omega) (by decide) ?_
    refine wv_if_ne (tgt := 27) dX8_wants_15 (by decide) (fun h15 => ?_) (fun h15 => ?_)
    · refine wv_iconst (v := 0) dX8_wants_27 (by decide) ?_
      refine wv_zret rfl rfl dX8_wants_28 ?_
      refine ⟨?_, rfl, rfl, rfl, fun _ _ => rfl⟩
      have : wnt g dr S s = false := by
        unfold wnt
        rw [hdr]
        simp [*]
      simp [this]
    · refine wv_aload_n dX8_wants_18 rfl ?_
      refine wv_getR fX8_93 dX8_wants_19 rfl (by first | assumption | rfl) (by first | exact hR _ _ _ rfl | assumption) ?_
      refine wv_iload_n dX8_wants_22 rfl ?_
      refine wv_zaldN dX8_wants_23 (by first | assumption | rfl) (by omega) (by decide) ?_
      refine wv_if_eq (tgt := 29) dX8_wants_24 (by decide) (fun h24 => ?_) (fun h24 => ?_)
      · refine wv_iconst (v := nI 0) dX8_wants_29 rfl ?_
        refine wv_istore_k (i := 3) dX8_wants_30 rfl (by decide) ?_
        refine wv_iconst (v := nI 0) dX8_wants_31 rfl ?_
        refine wv_istore dX8_wants_32 (by decide) ?_
        refine wr_V.imp (wv_le (by simp [wr_leq, wr_s1, wr_s2, wr_wide]) (lp (gLn g) 0 0 I (fun _ => 0) (by omega) ok.2.2.2.2.2.2.2.2.2 (fun _ _ => rfl) (fun b hb => by omega) (by omega))) (fun v s' I' L' R' h => ?_)
        obtain ⟨q1, q2, q3, q4, q5⟩ := h
        refine ⟨?_, q2, q3, q4, q5⟩
        rw [q1]
        have : wnt g dr S s = decide ((evl (gC g) (lk g S s) (gLn g) 0 (fun _ => 0, 0)).1 0 ≠ 0) := by
          unfold wnt val
          rw [hdr]
          simp [h6, h15, h24]
        rw [this]
        unfold nz
        by_cases hz : (evl (gC g) (lk g S s) (gLn g) 0 (fun _ => 0, 0)).1 0 = 0 <;> simp [hz]
      · refine wv_iconst (v := 0) dX8_wants_27 (by decide) ?_
        refine wv_zret rfl rfl dX8_wants_28 ?_
        refine ⟨?_, rfl, rfl, rfl, fun _ _ => rfl⟩
        have : wnt g dr S s = false := by
          unfold wnt
          rw [hdr]
          simp [*]
        simp [this]

